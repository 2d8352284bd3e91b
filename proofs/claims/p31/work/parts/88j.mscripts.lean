abbrev rmL_scripts : Room := { frames := 9, cells := 28, slots := 168, locals := 210 }
theorem kdL_scripts : yL_scripts.cls = RL ∧ yL_scripts.cls ≠ "java/lang/invoke/MethodHandle" ∧ yL_scripts.cls ≠ "java/lang/invoke/VarHandle" ∧ (parseMethodDescriptor yL_scripts.desc).map (fun d => d.parameters.length) = some 2 := by decide +kernel
theorem wL_scripts_213 : Cond.constantLong RL 213 (157) ∈ wsL_scripts := by decide +kernel
theorem wL_scripts_215 : Cond.constantLong RL 215 (8000) ∈ wsL_scripts := by decide +kernel
theorem wL_scripts_217 : Cond.constantLong RL 217 (8001) ∈ wsL_scripts := by decide +kernel
theorem wL_scripts_219 : Cond.constantLong RL 219 (3000) ∈ wsL_scripts := by decide +kernel
theorem wL_scripts_221 : Cond.constantLong RL 221 (3001) ∈ wsL_scripts := by decide +kernel
theorem wL_scripts_223 : Cond.constantLong RL 223 (4000) ∈ wsL_scripts := by decide +kernel
theorem wL_scripts_225 : Cond.constantLong RL 225 (4051) ∈ wsL_scripts := by decide +kernel
theorem wL_scripts_227 : Cond.constantLong RL 227 (4050) ∈ wsL_scripts := by decide +kernel
theorem wL_scripts_229 : Cond.constantLong RL 229 (5512) ∈ wsL_scripts := by decide +kernel
theorem wL_scripts_231 : Cond.constantLong RL 231 (5511) ∈ wsL_scripts := by decide +kernel
theorem wL_scripts_233 : Cond.constantLong RL 233 (6040) ∈ wsL_scripts := by decide +kernel
theorem wL_scripts_235 : Cond.constantLong RL 235 (8009) ∈ wsL_scripts := by decide +kernel
theorem wL_scripts_237 : Cond.constantLong RL 237 (9000) ∈ wsL_scripts := by decide +kernel
theorem wL_scripts_239 : Cond.constantLong RL 239 (100) ∈ wsL_scripts := by decide +kernel
theorem wL_scripts_241 : Cond.constantLong RL 241 (10) ∈ wsL_scripts := by decide +kernel
theorem wL_scripts_243 : Cond.constantLong RL 243 (6000) ∈ wsL_scripts := by decide +kernel
theorem wL_scripts_245 : Cond.constantLong RL 245 (7) ∈ wsL_scripts := by decide +kernel
theorem wL_scripts_191 : Cond.constantLong RL 191 (10000) ∈ wsL_scripts := by decide +kernel
theorem wL_scripts_247 : Cond.constantLong RL 247 (9007) ∈ wsL_scripts := by decide +kernel
theorem wL_scripts_249 : Cond.constantLong RL 249 (9040) ∈ wsL_scripts := by decide +kernel
theorem wL_scripts_251 : Cond.constantLong RL 251 (2000) ∈ wsL_scripts := by decide +kernel
theorem wL_scripts_253 : Cond.constantLong RL 253 (7000) ∈ wsL_scripts := by decide +kernel
theorem wL_scripts_255 : Cond.constantLong RL 255 (1000) ∈ wsL_scripts := by decide +kernel
theorem wL_scripts_257 : Cond.constantLong RL 257 (110) ∈ wsL_scripts := by decide +kernel
set_option maxRecDepth 100000 in
set_option maxHeartbeats 4000000 in
theorem bL_scripts_564 {p : Program} {l : Launch} {e : Env} {s : State} {m : MethodId} {args : Array Value} {below : List Frame} {meth : Method} {c : Code} {D : va_G} {cy : Nat → ClassId} {ad0 : Nat → Nat} {ba0 : Nat → Prop} {z0 : aS} {x1 : Int32} {res : Int32} (X : teC wsL_scripts RL cL_scripts 10 (some .boolean) D cy ba0 p s m args meth c) (hl0 : l.stackTraces = false) : ∀ (v2 : Int32) (v5 : Int32) (H : Heap) (locs : List Loc) (ls : Array Slot) (ce sl : Nat), ce + (1) ≤ 28 → sl + (6) ≤ 168 → aR D cy ad0 ba0 z0 H → va_S ba0 s.heap H locs → lv_has ls 10 [(0, .ref (ad0 360)), (2, .int v2), (5, .int v5)] → hL_scripts_564 z0 x1 v2 v5 = some res → W p l e (headSpec wsL_scripts rmL_scripts).room s m args below meth c H locs ce sl (MQ below (va_Qi (fun a (_ : Unit) => a = res) (fun _ t => (aR D cy ad0 ba0 z0) t.heap) ba0) args s 28 168 ba0) (F0 m 564 ls []) := by
  have hx := X.1
  have hb := X.2.1
  have hown := X.2.2.2.2.1
  intro v2 v5 H locs ls ce sl hb1_ hb2_ hW0 hS hl hf
  unfold hL_scripts_564 at hf
  refine lv_iload hx hb dL_scripts_564 (lv_at hl 2 rfl) ?_
  refine lv_if_eq (tgt := 597) hx hb dL_scripts_566 (by decide) (fun c_24 => ?_) (fun c_24 => ?_)
  · replace hf := ite_t c_24 hf
    refine lv_iconst (v := (0 : Int32)) hx hb dL_scripts_597 (by decide) ?_
    cases Option.some.inj hf
    exact eKz (v := (0 : Int32)) X hW0 hS (by decide) rfl (by omega) (by omega) dL_scripts_598
  · replace hf := ite_f c_24 hf
    refine lv_iload_n hx hb dL_scripts_569 rfl (lv_at hl 1 rfl) ?_
    refine lv_bipush (v := (9 : Int32)) hx hb dL_scripts_570 (by decide) ?_
    refine lv_icmp_eq (tgt := 593) hx hb dL_scripts_572 (by decide) (fun c_25 => ?_) (fun c_25 => ?_)
    · replace hf := ite_t c_25 hf
      refine lv_iconst (v := (1 : Int32)) hx hb dL_scripts_593 (by decide) ?_
      refine lv_goto (tgt := 598) hx hb dL_scripts_594 (by decide) ?_
      cases Option.some.inj hf
      exact eKz (v := (1 : Int32)) X hW0 hS (by decide) rfl (by omega) (by omega) dL_scripts_598
    · replace hf := ite_f c_25 hf
      refine lv_aload_n hx hb dL_scripts_575 rfl (lv_at hl 0 rfl) ?_
      refine lv_iconst (v := (1 : Int32)) hx hb dL_scripts_576 (by decide) ?_
      refine lv_ldc2 (v := (2000 : Int64)) hx hb hown (X.2.2.2.2.2.1 _ wL_scripts_251) dL_scripts_577 ?_
      refine lv_ldc2 (v := (100 : Int64)) hx hb hown (X.2.2.2.2.2.1 _ wL_scripts_239) dL_scripts_580 ?_
      refine lv_iload_n hx hb dL_scripts_583 rfl (lv_at hl 1 rfl) ?_
      refine lv_i2l hx hb dL_scripts_584 rfl ?_
      refine lv_lmul hx hb dL_scripts_585 ?_
      refine lv_ladd hx hb dL_scripts_586 ?_
      refine kA (As := [.ref (ad0 360), .int (1 : Int32), .long ((2000 : Int64) + ((100 : Int64) * (v2).toInt64))]) (rest := []) X (fun q h => h) hW0 hS (tI_tryScript l D cy ad0 ba0 hl0 z0 (1 : Int32) ((2000 : Int64) + ((100 : Int64) * (v2).toInt64))) (vx_cwSW (hh := [(0, 6, 7, 13)]) 3 X.2.2.2.2.2.1 gL_scripts_L_tryScript rfl rfl rfl kdL_tryScript.2 ⟨(Nat.le_of_ble_eq_true rfl), (Nat.le_of_ble_eq_true rfl)⟩) rfl rfl hl.1 (Nat.le_of_ble_eq_true rfl) ⟨by show _ ≤ 28; omega, by show _ ≤ 168; omega⟩ dL_scripts_587 (fun H locs hW0 hS hz hk => ?_)
      clear hz hk
      refine lv_if_ne (tgt := 597) hx hb dL_scripts_590 (by decide) (fun c_26 => ?_) (fun c_26 => ?_)
      · replace hf := ite_f c_26 hf
        refine lv_iconst (v := (0 : Int32)) hx hb dL_scripts_597 (by decide) ?_
        cases Option.some.inj hf
        exact eKz (v := (0 : Int32)) X hW0 hS (by decide) rfl (by omega) (by omega) dL_scripts_598
      · replace hf := ite_t c_26 hf
        refine lv_iconst (v := (1 : Int32)) hx hb dL_scripts_593 (by decide) ?_
        refine lv_goto (tgt := 598) hx hb dL_scripts_594 (by decide) ?_
        cases Option.some.inj hf
        exact eKz (v := (1 : Int32)) X hW0 hS (by decide) rfl (by omega) (by omega) dL_scripts_598
set_option maxRecDepth 100000 in
set_option maxHeartbeats 4000000 in
theorem bL_scripts_561 {p : Program} {l : Launch} {e : Env} {s : State} {m : MethodId} {args : Array Value} {below : List Frame} {meth : Method} {c : Code} {D : va_G} {cy : Nat → ClassId} {ad0 : Nat → Nat} {ba0 : Nat → Prop} {z0 : aS} {x1 : Int32} {res : Int32} (X : teC wsL_scripts RL cL_scripts 10 (some .boolean) D cy ba0 p s m args meth c) (hl0 : l.stackTraces = false) : ∀ (v2 : Int32) (H : Heap) (locs : List Loc) (ls : Array Slot) (ce sl : Nat), ce + (1) ≤ 28 → sl + (6) ≤ 168 → aR D cy ad0 ba0 z0 H → va_S ba0 s.heap H locs → lv_has ls 10 [(0, .ref (ad0 360)), (2, .int v2)] → hL_scripts_561 z0 x1 v2 = some res → W p l e (headSpec wsL_scripts rmL_scripts).room s m args below meth c H locs ce sl (MQ below (va_Qi (fun a (_ : Unit) => a = res) (fun _ t => (aR D cy ad0 ba0 z0) t.heap) ba0) args s 28 168 ba0) (F0 m 561 ls []) := by
  have hx := X.1
  have hb := X.2.1
  have hown := X.2.2.2.2.1
  intro v2 H locs ls ce sl hb1_ hb2_ hW0 hS hl hf
  unfold hL_scripts_561 at hf
  refine lv_iconst (v := (0 : Int32)) hx hb dL_scripts_561 (by decide) ?_
  refine lv_istore (lv' := [(5, .int (0 : Int32)), (0, .ref (ad0 360)), (2, .int v2)]) hx hb dL_scripts_562 hl (by decide) rfl (fun ls hl => ?_)
  exact bL_scripts_564 (z0 := z0) (x1 := x1) X hl0 v2 (0 : Int32) _ _ _ _ _ (by omega) (by omega) hW0 hS (lv_sub hl [1, 2, 0] rfl) hf
set_option maxRecDepth 100000 in
set_option maxHeartbeats 4000000 in
theorem bL_scripts_519 {p : Program} {l : Launch} {e : Env} {s : State} {m : MethodId} {args : Array Value} {below : List Frame} {meth : Method} {c : Code} {D : va_G} {cy : Nat → ClassId} {ad0 : Nat → Nat} {ba0 : Nat → Prop} {z0 : aS} {x1 : Int32} {res : Int32} (X : teC wsL_scripts RL cL_scripts 10 (some .boolean) D cy ba0 p s m args meth c) (hl0 : l.stackTraces = false) : ∀ (v2 : Int32) (v6 : Int32) (H : Heap) (locs : List Loc) (ls : Array Slot) (ce sl : Nat), ce + (3) ≤ 28 → sl + (18) ≤ 168 → aR D cy ad0 ba0 z0 H → va_S ba0 s.heap H locs → lv_has ls 10 [(0, .ref (ad0 360)), (2, .int v2), (6, .int v6)] → hL_scripts_519 z0 x1 v2 v6 = some res → W p l e (headSpec wsL_scripts rmL_scripts).room s m args below meth c H locs ce sl (MQ below (va_Qi (fun a (_ : Unit) => a = res) (fun _ t => (aR D cy ad0 ba0 z0) t.heap) ba0) args s 28 168 ba0) (F0 m 519 ls []) := by
  have hx := X.1
  have hb := X.2.1
  have hown := X.2.2.2.2.1
  intro v2 v6 H locs ls ce sl hb1_ hb2_ hW0 hS hl hf
  unfold hL_scripts_519 at hf
  refine lv_aload_n hx hb dL_scripts_519 rfl (lv_at hl 0 rfl) ?_
  refine lv_iconst (v := (1 : Int32)) hx hb dL_scripts_520 (by decide) ?_
  refine lv_ldc2 (v := (1000 : Int64)) hx hb hown (X.2.2.2.2.2.1 _ wL_scripts_255) dL_scripts_521 ?_
  refine lv_ldc2 (v := (110 : Int64)) hx hb hown (X.2.2.2.2.2.1 _ wL_scripts_257) dL_scripts_524 ?_
  refine lv_iload hx hb dL_scripts_527 (lv_at hl 2 rfl) ?_
  refine lv_i2l hx hb dL_scripts_529 rfl ?_
  refine lv_lmul hx hb dL_scripts_530 ?_
  refine lv_ladd hx hb dL_scripts_531 ?_
  refine kA (As := [.ref (ad0 360), .int (1 : Int32), .long ((1000 : Int64) + ((110 : Int64) * (v6).toInt64))]) (rest := []) X (fun q h => h) hW0 hS (tI_tryScript l D cy ad0 ba0 hl0 z0 (1 : Int32) ((1000 : Int64) + ((110 : Int64) * (v6).toInt64))) (vx_cwSW (hh := [(0, 6, 7, 13)]) 3 X.2.2.2.2.2.1 gL_scripts_L_tryScript rfl rfl rfl kdL_tryScript.2 ⟨(Nat.le_of_ble_eq_true rfl), (Nat.le_of_ble_eq_true rfl)⟩) rfl rfl hl.1 (Nat.le_of_ble_eq_true rfl) ⟨by show _ ≤ 28; omega, by show _ ≤ 168; omega⟩ dL_scripts_532 (fun H locs hW0 hS hz hk => ?_)
  clear hz hk
  refine lv_if_ne (tgt := 561) hx hb dL_scripts_535 (by decide) (fun c_31 => ?_) (fun c_31 => ?_)
  · replace hf := ite_f c_31 hf
    exact bL_scripts_561 (z0 := z0) (x1 := x1) X hl0 v2 _ _ _ _ _ (by omega) (by omega) hW0 hS (lv_sub hl [0, 1] rfl) hf
  · replace hf := ite_t c_31 hf
    refine lv_aload_n hx hb dL_scripts_538 rfl (lv_at hl 0 rfl) ?_
    refine lv_iconst (v := (1 : Int32)) hx hb dL_scripts_539 (by decide) ?_
    refine lv_ldc2 (v := (7000 : Int64)) hx hb hown (X.2.2.2.2.2.1 _ wL_scripts_253) dL_scripts_540 ?_
    refine lv_ldc2 (v := (110 : Int64)) hx hb hown (X.2.2.2.2.2.1 _ wL_scripts_257) dL_scripts_543 ?_
    refine lv_iload hx hb dL_scripts_546 (lv_at hl 2 rfl) ?_
    refine lv_i2l hx hb dL_scripts_548 rfl ?_
    refine lv_lmul hx hb dL_scripts_549 ?_
    refine lv_ladd hx hb dL_scripts_550 ?_
    refine kA (As := [.ref (ad0 360), .int (1 : Int32), .long ((7000 : Int64) + ((110 : Int64) * (v6).toInt64))]) (rest := []) X (fun q h => h) hW0 hS (tI_tryScript l D cy ad0 ba0 hl0 z0 (1 : Int32) ((7000 : Int64) + ((110 : Int64) * (v6).toInt64))) (vx_cwSW (hh := [(0, 6, 7, 13)]) 3 X.2.2.2.2.2.1 gL_scripts_L_tryScript rfl rfl rfl kdL_tryScript.2 ⟨(Nat.le_of_ble_eq_true rfl), (Nat.le_of_ble_eq_true rfl)⟩) rfl rfl hl.1 (Nat.le_of_ble_eq_true rfl) ⟨by show _ ≤ 28; omega, by show _ ≤ 168; omega⟩ dL_scripts_551 (fun H locs hW0 hS hz hk => ?_)
    clear hz hk
    refine lv_if_ne (tgt := 561) hx hb dL_scripts_554 (by decide) (fun c_32 => ?_) (fun c_32 => ?_)
    · replace hf := ite_f c_32 hf
      exact bL_scripts_561 (z0 := z0) (x1 := x1) X hl0 v2 _ _ _ _ _ (by omega) (by omega) hW0 hS (lv_sub hl [0, 1] rfl) hf
    · replace hf := ite_t c_32 hf
      refine lv_iconst (v := (1 : Int32)) hx hb dL_scripts_557 (by decide) ?_
      refine lv_goto (tgt := 562) hx hb dL_scripts_558 (by decide) ?_
      refine lv_istore (lv' := [(5, .int (1 : Int32)), (0, .ref (ad0 360)), (2, .int v2), (6, .int v6)]) hx hb dL_scripts_562 hl (by decide) rfl (fun ls hl => ?_)
      exact bL_scripts_564 (z0 := z0) (x1 := x1) X hl0 v2 (1 : Int32) _ _ _ _ _ (by omega) (by omega) hW0 hS (lv_sub hl [1, 2, 0] rfl) hf
set_option maxRecDepth 100000 in
set_option maxHeartbeats 4000000 in
theorem bL_scripts_434 {p : Program} {l : Launch} {e : Env} {s : State} {m : MethodId} {args : Array Value} {below : List Frame} {meth : Method} {c : Code} {D : va_G} {cy : Nat → ClassId} {ad0 : Nat → Nat} {ba0 : Nat → Prop} {z0 : aS} {x1 : Int32} {res : Int32} (X : teC wsL_scripts RL cL_scripts 10 (some .boolean) D cy ba0 p s m args meth c) (hl0 : l.stackTraces = false) : ∀ (v2 : Int32) (v6 : Int32) (v9 : Int32) (y0 : Int32) (y1 : Int32) (H : Heap) (locs : List Loc) (ls : Array Slot) (ce sl : Nat), ce + (5) ≤ 28 → sl + (30) ≤ 168 → aR D cy ad0 ba0 z0 H → va_S ba0 s.heap H locs → lv_has ls 10 [(0, .ref (ad0 360)), (2, .int v2), (6, .int v6), (9, .int v9)] → hL_scripts_434 z0 x1 v2 v6 v9 y0 y1 = some res → W p l e (headSpec wsL_scripts rmL_scripts).room s m args below meth c H locs ce sl (MQ below (va_Qi (fun a (_ : Unit) => a = res) (fun _ t => (aR D cy ad0 ba0 z0) t.heap) ba0) args s 28 168 ba0) (F0 m 434 ls [.int y0, .int y1]) := by
  have hx := X.1
  have hb := X.2.1
  have hown := X.2.2.2.2.1
  intro v2 v6 v9 y0 y1 H locs ls ce sl hb1_ hb2_ hW0 hS hl hf
  unfold hL_scripts_434 at hf
  refine lv_icmp_ne (tgt := 561) hx hb dL_scripts_434 (by decide) (fun c_27 => ?_) (fun c_27 => ?_)
  · replace hf := ite_f c_27 hf
    exact bL_scripts_561 (z0 := z0) (x1 := x1) X hl0 v2 _ _ _ _ _ (by omega) (by omega) hW0 hS (lv_sub hl [0, 1] rfl) hf
  · replace hf := ite_t c_27 hf
    refine lv_iload hx hb dL_scripts_437 (lv_at hl 3 rfl) ?_
    refine lv_sipush (v := (-9999 : Int32)) hx hb dL_scripts_439 (by decide) ?_
    refine lv_icmp_eq (tgt := 519) hx hb dL_scripts_442 (by decide) (fun c_28 => ?_) (fun c_28 => ?_)
    · replace hf := ite_t c_28 hf
      exact bL_scripts_519 (z0 := z0) (x1 := x1) X hl0 v2 v6 _ _ _ _ _ (by omega) (by omega) hW0 hS (lv_sub hl [0, 1, 2] rfl) hf
    · replace hf := ite_f c_28 hf
      refine lv_aload_n hx hb dL_scripts_445 rfl (lv_at hl 0 rfl) ?_
      refine lv_iconst (v := (1 : Int32)) hx hb dL_scripts_446 (by decide) ?_
      refine lv_ldc2 (v := (7000 : Int64)) hx hb hown (X.2.2.2.2.2.1 _ wL_scripts_253) dL_scripts_447 ?_
      refine lv_ldc2 (v := (100 : Int64)) hx hb hown (X.2.2.2.2.2.1 _ wL_scripts_239) dL_scripts_450 ?_
      refine lv_iload hx hb dL_scripts_453 (lv_at hl 2 rfl) ?_
      refine lv_i2l hx hb dL_scripts_455 rfl ?_
      refine lv_lmul hx hb dL_scripts_456 ?_
      refine lv_ladd hx hb dL_scripts_457 ?_
      refine lv_ldc2 (v := (10 : Int64)) hx hb hown (X.2.2.2.2.2.1 _ wL_scripts_241) dL_scripts_458 ?_
      refine lv_iload hx hb dL_scripts_461 (lv_at hl 3 rfl) ?_
      refine lv_i2l hx hb dL_scripts_463 rfl ?_
      refine lv_lmul hx hb dL_scripts_464 ?_
      refine lv_ladd hx hb dL_scripts_465 ?_
      refine kA (As := [.ref (ad0 360), .int (1 : Int32), .long (((7000 : Int64) + ((100 : Int64) * (v6).toInt64)) + ((10 : Int64) * (v9).toInt64))]) (rest := []) X (fun q h => h) hW0 hS (tI_tryScript l D cy ad0 ba0 hl0 z0 (1 : Int32) (((7000 : Int64) + ((100 : Int64) * (v6).toInt64)) + ((10 : Int64) * (v9).toInt64))) (vx_cwSW (hh := [(0, 6, 7, 13)]) 3 X.2.2.2.2.2.1 gL_scripts_L_tryScript rfl rfl rfl kdL_tryScript.2 ⟨(Nat.le_of_ble_eq_true rfl), (Nat.le_of_ble_eq_true rfl)⟩) rfl rfl hl.1 (Nat.le_of_ble_eq_true rfl) ⟨by show _ ≤ 28; omega, by show _ ≤ 168; omega⟩ dL_scripts_466 (fun H locs hW0 hS hz hk => ?_)
      clear hz hk
      refine lv_sipush (v := (-9999 : Int32)) hx hb dL_scripts_469 (by decide) ?_
      refine lv_icmp_ne (tgt := 561) hx hb dL_scripts_472 (by decide) (fun c_29 => ?_) (fun c_29 => ?_)
      · replace hf := ite_f c_29 hf
        exact bL_scripts_561 (z0 := z0) (x1 := x1) X hl0 v2 _ _ _ _ _ (by omega) (by omega) hW0 hS (lv_sub hl [0, 1] rfl) hf
      · replace hf := ite_t c_29 hf
        refine lv_aload_n hx hb dL_scripts_475 rfl (lv_at hl 0 rfl) ?_
        refine lv_iconst (v := (2 : Int32)) hx hb dL_scripts_476 (by decide) ?_
        refine lv_ldc2 (v := (2000 : Int64)) hx hb hown (X.2.2.2.2.2.1 _ wL_scripts_251) dL_scripts_477 ?_
        refine lv_ldc2 (v := (100 : Int64)) hx hb hown (X.2.2.2.2.2.1 _ wL_scripts_239) dL_scripts_480 ?_
        refine lv_iload hx hb dL_scripts_483 (lv_at hl 2 rfl) ?_
        refine lv_i2l hx hb dL_scripts_485 rfl ?_
        refine lv_lmul hx hb dL_scripts_486 ?_
        refine lv_ladd hx hb dL_scripts_487 ?_
        refine lv_ldc2 (v := (10000 : Int64)) hx hb hown (X.2.2.2.2.2.1 _ wL_scripts_191) dL_scripts_488 ?_
        refine lv_lmul hx hb dL_scripts_491 ?_
        refine lv_ldc2 (v := (7000 : Int64)) hx hb hown (X.2.2.2.2.2.1 _ wL_scripts_253) dL_scripts_492 ?_
        refine lv_ladd hx hb dL_scripts_495 ?_
        refine lv_ldc2 (v := (100 : Int64)) hx hb hown (X.2.2.2.2.2.1 _ wL_scripts_239) dL_scripts_496 ?_
        refine lv_iload hx hb dL_scripts_499 (lv_at hl 2 rfl) ?_
        refine lv_i2l hx hb dL_scripts_501 rfl ?_
        refine lv_lmul hx hb dL_scripts_502 ?_
        refine lv_ladd hx hb dL_scripts_503 ?_
        refine lv_ldc2 (v := (10 : Int64)) hx hb hown (X.2.2.2.2.2.1 _ wL_scripts_241) dL_scripts_504 ?_
        refine lv_iload hx hb dL_scripts_507 (lv_at hl 3 rfl) ?_
        refine lv_i2l hx hb dL_scripts_509 rfl ?_
        refine lv_lmul hx hb dL_scripts_510 ?_
        refine lv_ladd hx hb dL_scripts_511 ?_
        refine kA (As := [.ref (ad0 360), .int (2 : Int32), .long ((((((2000 : Int64) + ((100 : Int64) * (v6).toInt64)) * (10000 : Int64)) + (7000 : Int64)) + ((100 : Int64) * (v6).toInt64)) + ((10 : Int64) * (v9).toInt64))]) (rest := []) X (fun q h => h) hW0 hS (tI_tryScript l D cy ad0 ba0 hl0 z0 (2 : Int32) ((((((2000 : Int64) + ((100 : Int64) * (v6).toInt64)) * (10000 : Int64)) + (7000 : Int64)) + ((100 : Int64) * (v6).toInt64)) + ((10 : Int64) * (v9).toInt64))) (vx_cwSW (hh := [(0, 6, 7, 13)]) 3 X.2.2.2.2.2.1 gL_scripts_L_tryScript rfl rfl rfl kdL_tryScript.2 ⟨(Nat.le_of_ble_eq_true rfl), (Nat.le_of_ble_eq_true rfl)⟩) rfl rfl hl.1 (Nat.le_of_ble_eq_true rfl) ⟨by show _ ≤ 28; omega, by show _ ≤ 168; omega⟩ dL_scripts_512 (fun H locs hW0 hS hz hk => ?_)
        clear hz hk
        refine lv_iconst (v := (1 : Int32)) hx hb dL_scripts_515 (by decide) ?_
        refine lv_icmp_ne (tgt := 561) hx hb dL_scripts_516 (by decide) (fun c_30 => ?_) (fun c_30 => ?_)
        · replace hf := ite_f c_30 hf
          exact bL_scripts_561 (z0 := z0) (x1 := x1) X hl0 v2 _ _ _ _ _ (by omega) (by omega) hW0 hS (lv_sub hl [0, 1] rfl) hf
        · replace hf := ite_t c_30 hf
          exact bL_scripts_519 (z0 := z0) (x1 := x1) X hl0 v2 v6 _ _ _ _ _ (by omega) (by omega) hW0 hS (lv_sub hl [0, 1, 2] rfl) hf
set_option maxRecDepth 100000 in
set_option maxHeartbeats 4000000 in
theorem bL_scripts_212 {p : Program} {l : Launch} {e : Env} {s : State} {m : MethodId} {args : Array Value} {below : List Frame} {meth : Method} {c : Code} {D : va_G} {cy : Nat → ClassId} {ad0 : Nat → Nat} {ba0 : Nat → Prop} {z0 : aS} {x1 : Int32} {res : Int32} (X : teC wsL_scripts RL cL_scripts 10 (some .boolean) D cy ba0 p s m args meth c) (hl0 : l.stackTraces = false) : ∀ (v2 : Int32) (y0 : Int32) (H : Heap) (locs : List Loc) (ls : Array Slot) (ce sl : Nat), ce + (12) ≤ 28 → sl + (72) ≤ 168 → aR D cy ad0 ba0 z0 H → va_S ba0 s.heap H locs → lv_has ls 10 [(0, .ref (ad0 360)), (1, .int x1), (2, .int v2)] → hL_scripts_212 z0 x1 v2 y0 = some res → W p l e (headSpec wsL_scripts rmL_scripts).room s m args below meth c H locs ce sl (MQ below (va_Qi (fun a (_ : Unit) => a = res) (fun _ t => (aR D cy ad0 ba0 z0) t.heap) ba0) args s 28 168 ba0) (F0 m 212 ls [.int y0]) := by
  have hx := X.1
  have hb := X.2.1
  have hown := X.2.2.2.2.1
  intro v2 y0 H locs ls ce sl hb1_ hb2_ hW0 hS hl hf
  unfold hL_scripts_212 at hf
  refine lv_istore (lv' := [(5, .int y0), (0, .ref (ad0 360)), (1, .int x1), (2, .int v2)]) hx hb dL_scripts_212 hl (by decide) rfl (fun ls hl => ?_)
  refine lv_iload_n hx hb dL_scripts_214 rfl (lv_at hl 3 rfl) ?_
  refine lv_if_le (tgt := 564) hx hb dL_scripts_215 (by decide) (fun c_16 => ?_) (fun c_16 => ?_)
  · replace hf := ite_t c_16 hf
    exact bL_scripts_564 (z0 := z0) (x1 := x1) X hl0 v2 y0 _ _ _ _ _ (by omega) (by omega) hW0 hS (lv_sub hl [1, 3, 0] rfl) hf
  · replace hf := ite_f c_16 hf
    refine lv_iload hx hb dL_scripts_218 (lv_at hl 0 rfl) ?_
    refine lv_if_eq (tgt := 564) hx hb dL_scripts_220 (by decide) (fun c_17 => ?_) (fun c_17 => ?_)
    · replace hf := ite_t c_17 hf
      exact bL_scripts_564 (z0 := z0) (x1 := x1) X hl0 v2 y0 _ _ _ _ _ (by omega) (by omega) hW0 hS (lv_sub hl [1, 3, 0] rfl) hf
    · replace hf := ite_f c_17 hf
      refine lv_iload_n hx hb dL_scripts_223 rfl (lv_at hl 2 rfl) ?_
      refine lv_iload_n hx hb dL_scripts_224 rfl (lv_at hl 3 rfl) ?_
      obtain ⟨h_18, hf⟩ := chk_some hf
      refine lv_irem hx hb dL_scripts_225 (of_decide_eq_true h_18) ?_
      refine lv_istore (lv' := [(6, .int (x1 - x1 / v2 * v2)), (5, .int y0), (0, .ref (ad0 360)), (1, .int x1), (2, .int v2)]) hx hb dL_scripts_226 hl (by decide) rfl (fun ls hl => ?_)
      refine lv_iload_n hx hb dL_scripts_228 rfl (lv_at hl 3 rfl) ?_
      refine lv_bipush (v := (16 : Int32)) hx hb dL_scripts_229 (by decide) ?_
      refine lv_idiv hx hb dL_scripts_231 (by decide) ?_
      refine lv_iconst (v := (4 : Int32)) hx hb dL_scripts_232 (by decide) ?_
      refine lv_irem hx hb dL_scripts_233 (by decide) ?_
      refine lv_istore (lv' := [(7, .int ((x1 / (16 : Int32)) - (x1 / (16 : Int32)) / (4 : Int32) * (4 : Int32))), (6, .int (x1 - x1 / v2 * v2)), (5, .int y0), (0, .ref (ad0 360)), (1, .int x1), (2, .int v2)]) hx hb dL_scripts_234 hl (by decide) rfl (fun ls hl => ?_)
      refine lv_aload_n hx hb dL_scripts_236 rfl (lv_at hl 3 rfl) ?_
      refine lv_iload hx hb dL_scripts_237 (lv_at hl 1 rfl) ?_
      refine lv_iload hx hb dL_scripts_239 (lv_at hl 0 rfl) ?_
      refine kA (As := [.ref (ad0 360), .int (x1 - x1 / v2 * v2), .int ((x1 / (16 : Int32)) - (x1 / (16 : Int32)) / (4 : Int32) * (4 : Int32))]) (rest := []) X (fun q h => h) hW0 hS (tI_tryMember l D cy ad0 ba0 hl0 z0 (x1 - x1 / v2 * v2) ((x1 / (16 : Int32)) - (x1 / (16 : Int32)) / (4 : Int32) * (4 : Int32))) (vx_cwSW (hh := [(0, 6, 7, 30), (0, 6, 11, 13)]) 3 X.2.2.2.2.2.1 gL_scripts_L_tryMember rfl rfl rfl kdL_tryMember.2 ⟨(Nat.le_of_ble_eq_true rfl), (Nat.le_of_ble_eq_true rfl)⟩) rfl rfl hl.1 (Nat.le_of_ble_eq_true rfl) ⟨by show _ ≤ 28; omega, by show _ ≤ 168; omega⟩ dL_scripts_241 (fun H locs hW0 hS hz hk => ?_)
      clear hz hk
      refine lv_istore (lv' := [(8, .int (A_tryMember z0 (x1 - x1 / v2 * v2) ((x1 / (16 : Int32)) - (x1 / (16 : Int32)) / (4 : Int32) * (4 : Int32)))), (7, .int ((x1 / (16 : Int32)) - (x1 / (16 : Int32)) / (4 : Int32) * (4 : Int32))), (6, .int (x1 - x1 / v2 * v2)), (5, .int y0), (0, .ref (ad0 360)), (1, .int x1), (2, .int v2)]) hx hb dL_scripts_244 hl (by decide) rfl (fun ls hl => ?_)
      refine lv_aload_n hx hb dL_scripts_246 rfl (lv_at hl 4 rfl) ?_
      refine lv_iload hx hb dL_scripts_247 (lv_at hl 2 rfl) ?_
      refine lv_bipush (v := (8 : Int32)) hx hb dL_scripts_249 (by decide) ?_
      refine kA (As := [.ref (ad0 360), .int (x1 - x1 / v2 * v2), .int (8 : Int32)]) (rest := []) X (fun q h => h) hW0 hS (tI_tryMember l D cy ad0 ba0 hl0 z0 (x1 - x1 / v2 * v2) (8 : Int32)) (vx_cwSW (hh := [(0, 6, 7, 30), (0, 6, 11, 13)]) 3 X.2.2.2.2.2.1 gL_scripts_L_tryMember rfl rfl rfl kdL_tryMember.2 ⟨(Nat.le_of_ble_eq_true rfl), (Nat.le_of_ble_eq_true rfl)⟩) rfl rfl hl.1 (Nat.le_of_ble_eq_true rfl) ⟨by show _ ≤ 28; omega, by show _ ≤ 168; omega⟩ dL_scripts_251 (fun H locs hW0 hS hz hk => ?_)
      clear hz hk
      refine lv_istore (lv' := [(9, .int (A_tryMember z0 (x1 - x1 / v2 * v2) (8 : Int32))), (8, .int (A_tryMember z0 (x1 - x1 / v2 * v2) ((x1 / (16 : Int32)) - (x1 / (16 : Int32)) / (4 : Int32) * (4 : Int32)))), (7, .int ((x1 / (16 : Int32)) - (x1 / (16 : Int32)) / (4 : Int32) * (4 : Int32))), (6, .int (x1 - x1 / v2 * v2)), (5, .int y0), (0, .ref (ad0 360)), (1, .int x1), (2, .int v2)]) hx hb dL_scripts_254 hl (by decide) rfl (fun ls hl => ?_)
      refine lv_aload_n hx hb dL_scripts_256 rfl (lv_at hl 5 rfl) ?_
      refine lv_iconst (v := (1 : Int32)) hx hb dL_scripts_257 (by decide) ?_
      refine lv_ldc2 (v := (9000 : Int64)) hx hb hown (X.2.2.2.2.2.1 _ wL_scripts_237) dL_scripts_258 ?_
      refine lv_ldc2 (v := (100 : Int64)) hx hb hown (X.2.2.2.2.2.1 _ wL_scripts_239) dL_scripts_261 ?_
      refine lv_iload hx hb dL_scripts_264 (lv_at hl 3 rfl) ?_
      refine lv_i2l hx hb dL_scripts_266 rfl ?_
      refine lv_lmul hx hb dL_scripts_267 ?_
      refine lv_ladd hx hb dL_scripts_268 ?_
      refine lv_ldc2 (v := (10 : Int64)) hx hb hown (X.2.2.2.2.2.1 _ wL_scripts_241) dL_scripts_269 ?_
      refine lv_iload hx hb dL_scripts_272 (lv_at hl 2 rfl) ?_
      refine lv_i2l hx hb dL_scripts_274 rfl ?_
      refine lv_lmul hx hb dL_scripts_275 ?_
      refine lv_ladd hx hb dL_scripts_276 ?_
      refine lv_iload hx hb dL_scripts_277 (lv_at hl 1 rfl) ?_
      refine lv_i2l hx hb dL_scripts_279 rfl ?_
      refine lv_ladd hx hb dL_scripts_280 ?_
      refine kA (As := [.ref (ad0 360), .int (1 : Int32), .long ((((9000 : Int64) + ((100 : Int64) * ((x1 - x1 / v2 * v2)).toInt64)) + ((10 : Int64) * (((x1 / (16 : Int32)) - (x1 / (16 : Int32)) / (4 : Int32) * (4 : Int32))).toInt64)) + ((A_tryMember z0 (x1 - x1 / v2 * v2) ((x1 / (16 : Int32)) - (x1 / (16 : Int32)) / (4 : Int32) * (4 : Int32)))).toInt64)]) (rest := []) X (fun q h => h) hW0 hS (tI_tryScript l D cy ad0 ba0 hl0 z0 (1 : Int32) ((((9000 : Int64) + ((100 : Int64) * ((x1 - x1 / v2 * v2)).toInt64)) + ((10 : Int64) * (((x1 / (16 : Int32)) - (x1 / (16 : Int32)) / (4 : Int32) * (4 : Int32))).toInt64)) + ((A_tryMember z0 (x1 - x1 / v2 * v2) ((x1 / (16 : Int32)) - (x1 / (16 : Int32)) / (4 : Int32) * (4 : Int32)))).toInt64)) (vx_cwSW (hh := [(0, 6, 7, 13)]) 3 X.2.2.2.2.2.1 gL_scripts_L_tryScript rfl rfl rfl kdL_tryScript.2 ⟨(Nat.le_of_ble_eq_true rfl), (Nat.le_of_ble_eq_true rfl)⟩) rfl rfl hl.1 (Nat.le_of_ble_eq_true rfl) ⟨by show _ ≤ 28; omega, by show _ ≤ 168; omega⟩ dL_scripts_281 (fun H locs hW0 hS hz hk => ?_)
      clear hz hk
      refine lv_sipush (v := (-9999 : Int32)) hx hb dL_scripts_284 (by decide) ?_
      refine lv_icmp_ne (tgt := 561) hx hb dL_scripts_287 (by decide) (fun c_19 => ?_) (fun c_19 => ?_)
      · replace hf := ite_f c_19 hf
        exact bL_scripts_561 (z0 := z0) (x1 := x1) X hl0 v2 _ _ _ _ _ (by omega) (by omega) hW0 hS (lv_sub hl [5, 7] rfl) hf
      · replace hf := ite_t c_19 hf
        refine lv_aload_n hx hb dL_scripts_290 rfl (lv_at hl 5 rfl) ?_
        refine lv_iconst (v := (1 : Int32)) hx hb dL_scripts_291 (by decide) ?_
        refine lv_ldc2 (v := (9000 : Int64)) hx hb hown (X.2.2.2.2.2.1 _ wL_scripts_237) dL_scripts_292 ?_
        refine lv_ldc2 (v := (100 : Int64)) hx hb hown (X.2.2.2.2.2.1 _ wL_scripts_239) dL_scripts_295 ?_
        refine lv_iload hx hb dL_scripts_298 (lv_at hl 3 rfl) ?_
        refine lv_i2l hx hb dL_scripts_300 rfl ?_
        refine lv_lmul hx hb dL_scripts_301 ?_
        refine lv_ladd hx hb dL_scripts_302 ?_
        refine lv_ldc2 (v := (10 : Int64)) hx hb hown (X.2.2.2.2.2.1 _ wL_scripts_241) dL_scripts_303 ?_
        refine lv_iload hx hb dL_scripts_306 (lv_at hl 2 rfl) ?_
        refine lv_i2l hx hb dL_scripts_308 rfl ?_
        refine lv_lmul hx hb dL_scripts_309 ?_
        refine lv_ladd hx hb dL_scripts_310 ?_
        refine lv_iload hx hb dL_scripts_311 (lv_at hl 1 rfl) ?_
        refine lv_iconst (v := (1 : Int32)) hx hb dL_scripts_313 (by decide) ?_
        refine lv_iadd hx hb dL_scripts_314 ?_
        refine lv_bipush (v := (10 : Int32)) hx hb dL_scripts_315 (by decide) ?_
        refine lv_irem hx hb dL_scripts_317 (by decide) ?_
        refine lv_i2l hx hb dL_scripts_318 rfl ?_
        refine lv_ladd hx hb dL_scripts_319 ?_
        refine kA (As := [.ref (ad0 360), .int (1 : Int32), .long ((((9000 : Int64) + ((100 : Int64) * ((x1 - x1 / v2 * v2)).toInt64)) + ((10 : Int64) * (((x1 / (16 : Int32)) - (x1 / (16 : Int32)) / (4 : Int32) * (4 : Int32))).toInt64)) + ((((A_tryMember z0 (x1 - x1 / v2 * v2) ((x1 / (16 : Int32)) - (x1 / (16 : Int32)) / (4 : Int32) * (4 : Int32))) + (1 : Int32)) - ((A_tryMember z0 (x1 - x1 / v2 * v2) ((x1 / (16 : Int32)) - (x1 / (16 : Int32)) / (4 : Int32) * (4 : Int32))) + (1 : Int32)) / (10 : Int32) * (10 : Int32))).toInt64)]) (rest := []) X (fun q h => h) hW0 hS (tI_tryScript l D cy ad0 ba0 hl0 z0 (1 : Int32) ((((9000 : Int64) + ((100 : Int64) * ((x1 - x1 / v2 * v2)).toInt64)) + ((10 : Int64) * (((x1 / (16 : Int32)) - (x1 / (16 : Int32)) / (4 : Int32) * (4 : Int32))).toInt64)) + ((((A_tryMember z0 (x1 - x1 / v2 * v2) ((x1 / (16 : Int32)) - (x1 / (16 : Int32)) / (4 : Int32) * (4 : Int32))) + (1 : Int32)) - ((A_tryMember z0 (x1 - x1 / v2 * v2) ((x1 / (16 : Int32)) - (x1 / (16 : Int32)) / (4 : Int32) * (4 : Int32))) + (1 : Int32)) / (10 : Int32) * (10 : Int32))).toInt64)) (vx_cwSW (hh := [(0, 6, 7, 13)]) 3 X.2.2.2.2.2.1 gL_scripts_L_tryScript rfl rfl rfl kdL_tryScript.2 ⟨(Nat.le_of_ble_eq_true rfl), (Nat.le_of_ble_eq_true rfl)⟩) rfl rfl hl.1 (Nat.le_of_ble_eq_true rfl) ⟨by show _ ≤ 28; omega, by show _ ≤ 168; omega⟩ dL_scripts_320 (fun H locs hW0 hS hz hk => ?_)
        clear hz hk
        refine lv_if_ne (tgt := 561) hx hb dL_scripts_323 (by decide) (fun c_20 => ?_) (fun c_20 => ?_)
        · replace hf := ite_f c_20 hf
          exact bL_scripts_561 (z0 := z0) (x1 := x1) X hl0 v2 _ _ _ _ _ (by omega) (by omega) hW0 hS (lv_sub hl [5, 7] rfl) hf
        · replace hf := ite_t c_20 hf
          refine lv_aload_n hx hb dL_scripts_326 rfl (lv_at hl 5 rfl) ?_
          refine lv_iconst (v := (2 : Int32)) hx hb dL_scripts_327 (by decide) ?_
          refine lv_ldc2 (v := (6000 : Int64)) hx hb hown (X.2.2.2.2.2.1 _ wL_scripts_243) dL_scripts_328 ?_
          refine lv_ldc2 (v := (100 : Int64)) hx hb hown (X.2.2.2.2.2.1 _ wL_scripts_239) dL_scripts_331 ?_
          refine lv_iload hx hb dL_scripts_334 (lv_at hl 3 rfl) ?_
          refine lv_i2l hx hb dL_scripts_336 rfl ?_
          refine lv_lmul hx hb dL_scripts_337 ?_
          refine lv_ladd hx hb dL_scripts_338 ?_
          refine lv_ldc2 (v := (10 : Int64)) hx hb hown (X.2.2.2.2.2.1 _ wL_scripts_241) dL_scripts_339 ?_
          refine lv_iload hx hb dL_scripts_342 (lv_at hl 2 rfl) ?_
          refine lv_i2l hx hb dL_scripts_344 rfl ?_
          refine lv_lmul hx hb dL_scripts_345 ?_
          refine lv_ladd hx hb dL_scripts_346 ?_
          refine lv_ldc2 (v := (7 : Int64)) hx hb hown (X.2.2.2.2.2.1 _ wL_scripts_245) dL_scripts_347 ?_
          refine lv_ladd hx hb dL_scripts_350 ?_
          refine lv_ldc2 (v := (10000 : Int64)) hx hb hown (X.2.2.2.2.2.1 _ wL_scripts_191) dL_scripts_351 ?_
          refine lv_lmul hx hb dL_scripts_354 ?_
          refine lv_ldc2 (v := (9007 : Int64)) hx hb hown (X.2.2.2.2.2.1 _ wL_scripts_247) dL_scripts_355 ?_
          refine lv_ladd hx hb dL_scripts_358 ?_
          refine lv_ldc2 (v := (100 : Int64)) hx hb hown (X.2.2.2.2.2.1 _ wL_scripts_239) dL_scripts_359 ?_
          refine lv_iload hx hb dL_scripts_362 (lv_at hl 3 rfl) ?_
          refine lv_i2l hx hb dL_scripts_364 rfl ?_
          refine lv_lmul hx hb dL_scripts_365 ?_
          refine lv_ladd hx hb dL_scripts_366 ?_
          refine lv_ldc2 (v := (10 : Int64)) hx hb hown (X.2.2.2.2.2.1 _ wL_scripts_241) dL_scripts_367 ?_
          refine lv_iload hx hb dL_scripts_370 (lv_at hl 2 rfl) ?_
          refine lv_i2l hx hb dL_scripts_372 rfl ?_
          refine lv_lmul hx hb dL_scripts_373 ?_
          refine lv_ladd hx hb dL_scripts_374 ?_
          refine kA (As := [.ref (ad0 360), .int (2 : Int32), .long ((((((((6000 : Int64) + ((100 : Int64) * ((x1 - x1 / v2 * v2)).toInt64)) + ((10 : Int64) * (((x1 / (16 : Int32)) - (x1 / (16 : Int32)) / (4 : Int32) * (4 : Int32))).toInt64)) + (7 : Int64)) * (10000 : Int64)) + (9007 : Int64)) + ((100 : Int64) * ((x1 - x1 / v2 * v2)).toInt64)) + ((10 : Int64) * (((x1 / (16 : Int32)) - (x1 / (16 : Int32)) / (4 : Int32) * (4 : Int32))).toInt64))]) (rest := []) X (fun q h => h) hW0 hS (tI_tryScript l D cy ad0 ba0 hl0 z0 (2 : Int32) ((((((((6000 : Int64) + ((100 : Int64) * ((x1 - x1 / v2 * v2)).toInt64)) + ((10 : Int64) * (((x1 / (16 : Int32)) - (x1 / (16 : Int32)) / (4 : Int32) * (4 : Int32))).toInt64)) + (7 : Int64)) * (10000 : Int64)) + (9007 : Int64)) + ((100 : Int64) * ((x1 - x1 / v2 * v2)).toInt64)) + ((10 : Int64) * (((x1 / (16 : Int32)) - (x1 / (16 : Int32)) / (4 : Int32) * (4 : Int32))).toInt64))) (vx_cwSW (hh := [(0, 6, 7, 13)]) 3 X.2.2.2.2.2.1 gL_scripts_L_tryScript rfl rfl rfl kdL_tryScript.2 ⟨(Nat.le_of_ble_eq_true rfl), (Nat.le_of_ble_eq_true rfl)⟩) rfl rfl hl.1 (Nat.le_of_ble_eq_true rfl) ⟨by show _ ≤ 28; omega, by show _ ≤ 168; omega⟩ dL_scripts_375 (fun H locs hW0 hS hz hk => ?_)
          clear hz hk
          refine lv_sipush (v := (-9999 : Int32)) hx hb dL_scripts_378 (by decide) ?_
          refine lv_icmp_ne (tgt := 561) hx hb dL_scripts_381 (by decide) (fun c_21 => ?_) (fun c_21 => ?_)
          · replace hf := ite_f c_21 hf
            exact bL_scripts_561 (z0 := z0) (x1 := x1) X hl0 v2 _ _ _ _ _ (by omega) (by omega) hW0 hS (lv_sub hl [5, 7] rfl) hf
          · replace hf := ite_t c_21 hf
            refine lv_aload_n hx hb dL_scripts_384 rfl (lv_at hl 5 rfl) ?_
            refine lv_iconst (v := (1 : Int32)) hx hb dL_scripts_385 (by decide) ?_
            refine lv_ldc2 (v := (9040 : Int64)) hx hb hown (X.2.2.2.2.2.1 _ wL_scripts_249) dL_scripts_386 ?_
            refine lv_ldc2 (v := (100 : Int64)) hx hb hown (X.2.2.2.2.2.1 _ wL_scripts_239) dL_scripts_389 ?_
            refine lv_iload hx hb dL_scripts_392 (lv_at hl 3 rfl) ?_
            refine lv_i2l hx hb dL_scripts_394 rfl ?_
            refine lv_lmul hx hb dL_scripts_395 ?_
            refine lv_ladd hx hb dL_scripts_396 ?_
            refine kA (As := [.ref (ad0 360), .int (1 : Int32), .long ((9040 : Int64) + ((100 : Int64) * ((x1 - x1 / v2 * v2)).toInt64))]) (rest := []) X (fun q h => h) hW0 hS (tI_tryScript l D cy ad0 ba0 hl0 z0 (1 : Int32) ((9040 : Int64) + ((100 : Int64) * ((x1 - x1 / v2 * v2)).toInt64))) (vx_cwSW (hh := [(0, 6, 7, 13)]) 3 X.2.2.2.2.2.1 gL_scripts_L_tryScript rfl rfl rfl kdL_tryScript.2 ⟨(Nat.le_of_ble_eq_true rfl), (Nat.le_of_ble_eq_true rfl)⟩) rfl rfl hl.1 (Nat.le_of_ble_eq_true rfl) ⟨by show _ ≤ 28; omega, by show _ ≤ 168; omega⟩ dL_scripts_397 (fun H locs hW0 hS hz hk => ?_)
            clear hz hk
            refine lv_if_ne (tgt := 561) hx hb dL_scripts_400 (by decide) (fun c_22 => ?_) (fun c_22 => ?_)
            · replace hf := ite_f c_22 hf
              exact bL_scripts_561 (z0 := z0) (x1 := x1) X hl0 v2 _ _ _ _ _ (by omega) (by omega) hW0 hS (lv_sub hl [5, 7] rfl) hf
            · replace hf := ite_t c_22 hf
              refine lv_aload_n hx hb dL_scripts_403 rfl (lv_at hl 5 rfl) ?_
              refine lv_iconst (v := (1 : Int32)) hx hb dL_scripts_404 (by decide) ?_
              refine lv_ldc2 (v := (2000 : Int64)) hx hb hown (X.2.2.2.2.2.1 _ wL_scripts_251) dL_scripts_405 ?_
              refine lv_ldc2 (v := (100 : Int64)) hx hb hown (X.2.2.2.2.2.1 _ wL_scripts_239) dL_scripts_408 ?_
              refine lv_iload hx hb dL_scripts_411 (lv_at hl 3 rfl) ?_
              refine lv_i2l hx hb dL_scripts_413 rfl ?_
              refine lv_lmul hx hb dL_scripts_414 ?_
              refine lv_ladd hx hb dL_scripts_415 ?_
              refine kA (As := [.ref (ad0 360), .int (1 : Int32), .long ((2000 : Int64) + ((100 : Int64) * ((x1 - x1 / v2 * v2)).toInt64))]) (rest := []) X (fun q h => h) hW0 hS (tI_tryScript l D cy ad0 ba0 hl0 z0 (1 : Int32) ((2000 : Int64) + ((100 : Int64) * ((x1 - x1 / v2 * v2)).toInt64))) (vx_cwSW (hh := [(0, 6, 7, 13)]) 3 X.2.2.2.2.2.1 gL_scripts_L_tryScript rfl rfl rfl kdL_tryScript.2 ⟨(Nat.le_of_ble_eq_true rfl), (Nat.le_of_ble_eq_true rfl)⟩) rfl rfl hl.1 (Nat.le_of_ble_eq_true rfl) ⟨by show _ ≤ 28; omega, by show _ ≤ 168; omega⟩ dL_scripts_416 (fun H locs hW0 hS hz hk => ?_)
              clear hz hk
              refine lv_iload hx hb dL_scripts_419 (lv_at hl 0 rfl) ?_
              refine lv_sipush (v := (-9999 : Int32)) hx hb dL_scripts_421 (by decide) ?_
              refine lv_icmp_ne (tgt := 431) hx hb dL_scripts_424 (by decide) (fun c_23 => ?_) (fun c_23 => ?_)
              · replace hf := ite_f c_23 hf
                refine lv_sipush (v := (-9999 : Int32)) hx hb dL_scripts_431 (by decide) ?_
                exact bL_scripts_434 (z0 := z0) (x1 := x1) X hl0 v2 (x1 - x1 / v2 * v2) (A_tryMember z0 (x1 - x1 / v2 * v2) (8 : Int32)) (-9999 : Int32) (A_tryScript z0 (1 : Int32) ((2000 : Int64) + ((100 : Int64) * ((x1 - x1 / v2 * v2)).toInt64))) _ _ _ _ _ (by omega) (by omega) hW0 hS (lv_sub hl [5, 7, 3, 0] rfl) hf
              · replace hf := ite_t c_23 hf
                refine lv_iconst (v := (0 : Int32)) hx hb dL_scripts_427 (by decide) ?_
                refine lv_goto (tgt := 434) hx hb dL_scripts_428 (by decide) ?_
                exact bL_scripts_434 (z0 := z0) (x1 := x1) X hl0 v2 (x1 - x1 / v2 * v2) (A_tryMember z0 (x1 - x1 / v2 * v2) (8 : Int32)) (0 : Int32) (A_tryScript z0 (1 : Int32) ((2000 : Int64) + ((100 : Int64) * ((x1 - x1 / v2 * v2)).toInt64))) _ _ _ _ _ (by omega) (by omega) hW0 hS (lv_sub hl [5, 7, 3, 0] rfl) hf
set_option maxRecDepth 100000 in
set_option maxHeartbeats 4000000 in
theorem bL_scripts_211 {p : Program} {l : Launch} {e : Env} {s : State} {m : MethodId} {args : Array Value} {below : List Frame} {meth : Method} {c : Code} {D : va_G} {cy : Nat → ClassId} {ad0 : Nat → Nat} {ba0 : Nat → Prop} {z0 : aS} {x1 : Int32} {res : Int32} (X : teC wsL_scripts RL cL_scripts 10 (some .boolean) D cy ba0 p s m args meth c) (hl0 : l.stackTraces = false) : ∀ (v2 : Int32) (H : Heap) (locs : List Loc) (ls : Array Slot) (ce sl : Nat), ce + (12) ≤ 28 → sl + (72) ≤ 168 → aR D cy ad0 ba0 z0 H → va_S ba0 s.heap H locs → lv_has ls 10 [(0, .ref (ad0 360)), (1, .int x1), (2, .int v2)] → hL_scripts_211 z0 x1 v2 = some res → W p l e (headSpec wsL_scripts rmL_scripts).room s m args below meth c H locs ce sl (MQ below (va_Qi (fun a (_ : Unit) => a = res) (fun _ t => (aR D cy ad0 ba0 z0) t.heap) ba0) args s 28 168 ba0) (F0 m 211 ls []) := by
  have hx := X.1
  have hb := X.2.1
  have hown := X.2.2.2.2.1
  intro v2 H locs ls ce sl hb1_ hb2_ hW0 hS hl hf
  unfold hL_scripts_211 at hf
  refine lv_iconst (v := (0 : Int32)) hx hb dL_scripts_211 (by decide) ?_
  exact bL_scripts_212 (z0 := z0) (x1 := x1) X hl0 v2 (0 : Int32) _ _ _ _ _ (by omega) (by omega) hW0 hS (lv_sub hl [0, 1, 2] rfl) hf
set_option maxRecDepth 100000 in
set_option maxHeartbeats 4000000 in
theorem bL_scripts_0 {p : Program} {l : Launch} {e : Env} {s : State} {m : MethodId} {args : Array Value} {below : List Frame} {meth : Method} {c : Code} {D : va_G} {cy : Nat → ClassId} {ad0 : Nat → Nat} {ba0 : Nat → Prop} {z0 : aS} {x1 : Int32} {res : Int32} (X : teC wsL_scripts RL cL_scripts 10 (some .boolean) D cy ba0 p s m args meth c) (hl0 : l.stackTraces = false) : ∀ (H : Heap) (locs : List Loc) (ls : Array Slot) (ce sl : Nat), ce + (28) ≤ 28 → sl + (168) ≤ 168 → aR D cy ad0 ba0 z0 H → va_S ba0 s.heap H locs → lv_has ls 10 [(0, .ref (ad0 360)), (1, .int x1)] → hL_scripts z0 x1 = some res → W p l e (headSpec wsL_scripts rmL_scripts).room s m args below meth c H locs ce sl (MQ below (va_Qi (fun a (_ : Unit) => a = res) (fun _ t => (aR D cy ad0 ba0 z0) t.heap) ba0) args s 28 168 ba0) (F0 m 0 ls []) := by
  have hx := X.1
  have hb := X.2.1
  have hown := X.2.2.2.2.1
  intro H locs ls ce sl hb1_ hb2_ hW0 hS hl hf
  unfold hL_scripts at hf
  refine lv_aload_n hx hb dL_scripts_0 rfl (lv_at hl 0 rfl) ?_
  refine lv_iconst (v := (0 : Int32)) hx hb dL_scripts_1 (by decide) ?_
  refine kA (As := [.ref (ad0 360), .int (0 : Int32)]) (rest := []) X (fun q h => h) hW0 hS (tI_tryAbout l D cy ad0 ba0 hl0 z0 (0 : Int32)) (vx_cwSW (hh := [(0, 5, 6, 13)]) 2 X.2.2.2.2.2.1 gL_scripts_L_tryAbout rfl rfl rfl kdL_tryAbout.2 ⟨(Nat.le_of_ble_eq_true rfl), (Nat.le_of_ble_eq_true rfl)⟩) rfl rfl hl.1 (Nat.le_of_ble_eq_true rfl) ⟨by show _ ≤ 28; omega, by show _ ≤ 168; omega⟩ dL_scripts_2 (fun H locs hW0 hS hz hk => ?_)
  clear hz hk
  refine lv_istore_n (lv' := [(2, .int (A_tryAbout z0 (0 : Int32))), (0, .ref (ad0 360)), (1, .int x1)]) hx hb dL_scripts_5 rfl hl (by decide) rfl (fun ls hl => ?_)
  refine lv_aload_n hx hb dL_scripts_6 rfl (lv_at hl 1 rfl) ?_
  refine lv_iconst (v := (1 : Int32)) hx hb dL_scripts_7 (by decide) ?_
  refine kA (As := [.ref (ad0 360), .int (1 : Int32)]) (rest := []) X (fun q h => h) hW0 hS (tI_tryAbout l D cy ad0 ba0 hl0 z0 (1 : Int32)) (vx_cwSW (hh := [(0, 5, 6, 13)]) 2 X.2.2.2.2.2.1 gL_scripts_L_tryAbout rfl rfl rfl kdL_tryAbout.2 ⟨(Nat.le_of_ble_eq_true rfl), (Nat.le_of_ble_eq_true rfl)⟩) rfl rfl hl.1 (Nat.le_of_ble_eq_true rfl) ⟨by show _ ≤ 28; omega, by show _ ≤ 168; omega⟩ dL_scripts_8 (fun H locs hW0 hS hz hk => ?_)
  clear hz hk
  refine lv_istore_n (lv' := [(3, .int (A_tryAbout z0 (1 : Int32))), (2, .int (A_tryAbout z0 (0 : Int32))), (0, .ref (ad0 360)), (1, .int x1)]) hx hb dL_scripts_11 rfl hl (by decide) rfl (fun ls hl => ?_)
  refine lv_aload_n hx hb dL_scripts_12 rfl (lv_at hl 2 rfl) ?_
  refine lv_iload_n hx hb dL_scripts_13 rfl (lv_at hl 3 rfl) ?_
  refine lv_i2l hx hb dL_scripts_14 rfl ?_
  refine lv_ldc2 (v := (157 : Int64)) hx hb hown (X.2.2.2.2.2.1 _ wL_scripts_213) dL_scripts_15 ?_
  refine lv_lmul hx hb dL_scripts_18 ?_
  refine lv_bipush (v := (15 : Int32)) hx hb dL_scripts_19 (by decide) ?_
  refine kA (As := [.ref (ad0 360), .long ((x1).toInt64 * (157 : Int64)), .int (15 : Int32)]) (rest := []) X (fun q h => h) hW0 hS (tI_trySimulate l D cy ad0 ba0 hl0 z0 ((x1).toInt64 * (157 : Int64)) (15 : Int32)) (vx_cwSW (hh := [(0, 6, 7, 13)]) 3 X.2.2.2.2.2.1 gL_scripts_L_trySimulate rfl rfl rfl kdL_trySimulate.2 ⟨(Nat.le_of_ble_eq_true rfl), (Nat.le_of_ble_eq_true rfl)⟩) rfl rfl hl.1 (Nat.le_of_ble_eq_true rfl) ⟨by show _ ≤ 28; omega, by show _ ≤ 168; omega⟩ dL_scripts_21 (fun H locs hW0 hS hz hk => ?_)
  clear hz hk
  refine lv_istore (lv' := [(4, .int (A_trySimulate z0 ((x1).toInt64 * (157 : Int64)) (15 : Int32))), (3, .int (A_tryAbout z0 (1 : Int32))), (2, .int (A_tryAbout z0 (0 : Int32))), (0, .ref (ad0 360)), (1, .int x1)]) hx hb dL_scripts_24 hl (by decide) rfl (fun ls hl => ?_)
  refine lv_aload_n hx hb dL_scripts_26 rfl (lv_at hl 3 rfl) ?_
  refine lv_iconst (v := (1 : Int32)) hx hb dL_scripts_27 (by decide) ?_
  refine lv_ldc2 (v := (8000 : Int64)) hx hb hown (X.2.2.2.2.2.1 _ wL_scripts_215) dL_scripts_28 ?_
  refine lv_iload_n hx hb dL_scripts_31 rfl (lv_at hl 1 rfl) ?_
  refine lv_i2l hx hb dL_scripts_32 rfl ?_
  refine lv_ladd hx hb dL_scripts_33 ?_
  refine kA (As := [.ref (ad0 360), .int (1 : Int32), .long ((8000 : Int64) + ((A_tryAbout z0 (1 : Int32))).toInt64)]) (rest := []) X (fun q h => h) hW0 hS (tI_tryScript l D cy ad0 ba0 hl0 z0 (1 : Int32) ((8000 : Int64) + ((A_tryAbout z0 (1 : Int32))).toInt64)) (vx_cwSW (hh := [(0, 6, 7, 13)]) 3 X.2.2.2.2.2.1 gL_scripts_L_tryScript rfl rfl rfl kdL_tryScript.2 ⟨(Nat.le_of_ble_eq_true rfl), (Nat.le_of_ble_eq_true rfl)⟩) rfl rfl hl.1 (Nat.le_of_ble_eq_true rfl) ⟨by show _ ≤ 28; omega, by show _ ≤ 168; omega⟩ dL_scripts_34 (fun H locs hW0 hS hz hk => ?_)
  clear hz hk
  refine lv_sipush (v := (-9999 : Int32)) hx hb dL_scripts_37 (by decide) ?_
  refine lv_icmp_ne (tgt := 211) hx hb dL_scripts_40 (by decide) (fun c_1 => ?_) (fun c_1 => ?_)
  · replace hf := ite_f c_1 hf
    exact bL_scripts_211 (z0 := z0) (x1 := x1) X hl0 (A_tryAbout z0 (0 : Int32)) _ _ _ _ _ (by omega) (by omega) hW0 hS (lv_sub hl [3, 4, 2] rfl) hf
  · replace hf := ite_t c_1 hf
    refine lv_aload_n hx hb dL_scripts_43 rfl (lv_at hl 3 rfl) ?_
    refine lv_iconst (v := (1 : Int32)) hx hb dL_scripts_44 (by decide) ?_
    refine lv_ldc2 (v := (8001 : Int64)) hx hb hown (X.2.2.2.2.2.1 _ wL_scripts_217) dL_scripts_45 ?_
    refine lv_iload_n hx hb dL_scripts_48 rfl (lv_at hl 1 rfl) ?_
    refine lv_i2l hx hb dL_scripts_49 rfl ?_
    refine lv_ladd hx hb dL_scripts_50 ?_
    refine kA (As := [.ref (ad0 360), .int (1 : Int32), .long ((8001 : Int64) + ((A_tryAbout z0 (1 : Int32))).toInt64)]) (rest := []) X (fun q h => h) hW0 hS (tI_tryScript l D cy ad0 ba0 hl0 z0 (1 : Int32) ((8001 : Int64) + ((A_tryAbout z0 (1 : Int32))).toInt64)) (vx_cwSW (hh := [(0, 6, 7, 13)]) 3 X.2.2.2.2.2.1 gL_scripts_L_tryScript rfl rfl rfl kdL_tryScript.2 ⟨(Nat.le_of_ble_eq_true rfl), (Nat.le_of_ble_eq_true rfl)⟩) rfl rfl hl.1 (Nat.le_of_ble_eq_true rfl) ⟨by show _ ≤ 28; omega, by show _ ≤ 168; omega⟩ dL_scripts_51 (fun H locs hW0 hS hz hk => ?_)
    clear hz hk
    refine lv_if_ne (tgt := 211) hx hb dL_scripts_54 (by decide) (fun c_2 => ?_) (fun c_2 => ?_)
    · replace hf := ite_f c_2 hf
      exact bL_scripts_211 (z0 := z0) (x1 := x1) X hl0 (A_tryAbout z0 (0 : Int32)) _ _ _ _ _ (by omega) (by omega) hW0 hS (lv_sub hl [3, 4, 2] rfl) hf
    · replace hf := ite_t c_2 hf
      refine lv_aload_n hx hb dL_scripts_57 rfl (lv_at hl 3 rfl) ?_
      refine lv_iconst (v := (1 : Int32)) hx hb dL_scripts_58 (by decide) ?_
      refine lv_ldc2 (v := (3000 : Int64)) hx hb hown (X.2.2.2.2.2.1 _ wL_scripts_219) dL_scripts_59 ?_
      refine kA (As := [.ref (ad0 360), .int (1 : Int32), .long (3000 : Int64)]) (rest := []) X (fun q h => h) hW0 hS (tI_tryScript l D cy ad0 ba0 hl0 z0 (1 : Int32) (3000 : Int64)) (vx_cwSW (hh := [(0, 6, 7, 13)]) 3 X.2.2.2.2.2.1 gL_scripts_L_tryScript rfl rfl rfl kdL_tryScript.2 ⟨(Nat.le_of_ble_eq_true rfl), (Nat.le_of_ble_eq_true rfl)⟩) rfl rfl hl.1 (Nat.le_of_ble_eq_true rfl) ⟨by show _ ≤ 28; omega, by show _ ≤ 168; omega⟩ dL_scripts_62 (fun H locs hW0 hS hz hk => ?_)
      clear hz hk
      refine lv_sipush (v := (-9999 : Int32)) hx hb dL_scripts_65 (by decide) ?_
      refine lv_icmp_ne (tgt := 211) hx hb dL_scripts_68 (by decide) (fun c_3 => ?_) (fun c_3 => ?_)
      · replace hf := ite_f c_3 hf
        exact bL_scripts_211 (z0 := z0) (x1 := x1) X hl0 (A_tryAbout z0 (0 : Int32)) _ _ _ _ _ (by omega) (by omega) hW0 hS (lv_sub hl [3, 4, 2] rfl) hf
      · replace hf := ite_t c_3 hf
        refine lv_aload_n hx hb dL_scripts_71 rfl (lv_at hl 3 rfl) ?_
        refine lv_iconst (v := (1 : Int32)) hx hb dL_scripts_72 (by decide) ?_
        refine lv_ldc2 (v := (3001 : Int64)) hx hb hown (X.2.2.2.2.2.1 _ wL_scripts_221) dL_scripts_73 ?_
        refine kA (As := [.ref (ad0 360), .int (1 : Int32), .long (3001 : Int64)]) (rest := []) X (fun q h => h) hW0 hS (tI_tryScript l D cy ad0 ba0 hl0 z0 (1 : Int32) (3001 : Int64)) (vx_cwSW (hh := [(0, 6, 7, 13)]) 3 X.2.2.2.2.2.1 gL_scripts_L_tryScript rfl rfl rfl kdL_tryScript.2 ⟨(Nat.le_of_ble_eq_true rfl), (Nat.le_of_ble_eq_true rfl)⟩) rfl rfl hl.1 (Nat.le_of_ble_eq_true rfl) ⟨by show _ ≤ 28; omega, by show _ ≤ 168; omega⟩ dL_scripts_76 (fun H locs hW0 hS hz hk => ?_)
        clear hz hk
        refine lv_if_ne (tgt := 211) hx hb dL_scripts_79 (by decide) (fun c_4 => ?_) (fun c_4 => ?_)
        · replace hf := ite_f c_4 hf
          exact bL_scripts_211 (z0 := z0) (x1 := x1) X hl0 (A_tryAbout z0 (0 : Int32)) _ _ _ _ _ (by omega) (by omega) hW0 hS (lv_sub hl [3, 4, 2] rfl) hf
        · replace hf := ite_t c_4 hf
          refine lv_aload_n hx hb dL_scripts_82 rfl (lv_at hl 3 rfl) ?_
          refine lv_iconst (v := (1 : Int32)) hx hb dL_scripts_83 (by decide) ?_
          refine lv_ldc2 (v := (4000 : Int64)) hx hb hown (X.2.2.2.2.2.1 _ wL_scripts_223) dL_scripts_84 ?_
          refine kA (As := [.ref (ad0 360), .int (1 : Int32), .long (4000 : Int64)]) (rest := []) X (fun q h => h) hW0 hS (tI_tryScript l D cy ad0 ba0 hl0 z0 (1 : Int32) (4000 : Int64)) (vx_cwSW (hh := [(0, 6, 7, 13)]) 3 X.2.2.2.2.2.1 gL_scripts_L_tryScript rfl rfl rfl kdL_tryScript.2 ⟨(Nat.le_of_ble_eq_true rfl), (Nat.le_of_ble_eq_true rfl)⟩) rfl rfl hl.1 (Nat.le_of_ble_eq_true rfl) ⟨by show _ ≤ 28; omega, by show _ ≤ 168; omega⟩ dL_scripts_87 (fun H locs hW0 hS hz hk => ?_)
          clear hz hk
          refine lv_if_ne (tgt := 211) hx hb dL_scripts_90 (by decide) (fun c_5 => ?_) (fun c_5 => ?_)
          · replace hf := ite_f c_5 hf
            exact bL_scripts_211 (z0 := z0) (x1 := x1) X hl0 (A_tryAbout z0 (0 : Int32)) _ _ _ _ _ (by omega) (by omega) hW0 hS (lv_sub hl [3, 4, 2] rfl) hf
          · replace hf := ite_t c_5 hf
            refine lv_aload_n hx hb dL_scripts_93 rfl (lv_at hl 3 rfl) ?_
            refine lv_iconst (v := (1 : Int32)) hx hb dL_scripts_94 (by decide) ?_
            refine lv_ldc2 (v := (4051 : Int64)) hx hb hown (X.2.2.2.2.2.1 _ wL_scripts_225) dL_scripts_95 ?_
            refine kA (As := [.ref (ad0 360), .int (1 : Int32), .long (4051 : Int64)]) (rest := []) X (fun q h => h) hW0 hS (tI_tryScript l D cy ad0 ba0 hl0 z0 (1 : Int32) (4051 : Int64)) (vx_cwSW (hh := [(0, 6, 7, 13)]) 3 X.2.2.2.2.2.1 gL_scripts_L_tryScript rfl rfl rfl kdL_tryScript.2 ⟨(Nat.le_of_ble_eq_true rfl), (Nat.le_of_ble_eq_true rfl)⟩) rfl rfl hl.1 (Nat.le_of_ble_eq_true rfl) ⟨by show _ ≤ 28; omega, by show _ ≤ 168; omega⟩ dL_scripts_98 (fun H locs hW0 hS hz hk => ?_)
            clear hz hk
            refine lv_if_ne (tgt := 211) hx hb dL_scripts_101 (by decide) (fun c_6 => ?_) (fun c_6 => ?_)
            · replace hf := ite_f c_6 hf
              exact bL_scripts_211 (z0 := z0) (x1 := x1) X hl0 (A_tryAbout z0 (0 : Int32)) _ _ _ _ _ (by omega) (by omega) hW0 hS (lv_sub hl [3, 4, 2] rfl) hf
            · replace hf := ite_t c_6 hf
              refine lv_aload_n hx hb dL_scripts_104 rfl (lv_at hl 3 rfl) ?_
              refine lv_iconst (v := (1 : Int32)) hx hb dL_scripts_105 (by decide) ?_
              refine lv_ldc2 (v := (4050 : Int64)) hx hb hown (X.2.2.2.2.2.1 _ wL_scripts_227) dL_scripts_106 ?_
              refine kA (As := [.ref (ad0 360), .int (1 : Int32), .long (4050 : Int64)]) (rest := []) X (fun q h => h) hW0 hS (tI_tryScript l D cy ad0 ba0 hl0 z0 (1 : Int32) (4050 : Int64)) (vx_cwSW (hh := [(0, 6, 7, 13)]) 3 X.2.2.2.2.2.1 gL_scripts_L_tryScript rfl rfl rfl kdL_tryScript.2 ⟨(Nat.le_of_ble_eq_true rfl), (Nat.le_of_ble_eq_true rfl)⟩) rfl rfl hl.1 (Nat.le_of_ble_eq_true rfl) ⟨by show _ ≤ 28; omega, by show _ ≤ 168; omega⟩ dL_scripts_109 (fun H locs hW0 hS hz hk => ?_)
              clear hz hk
              refine lv_sipush (v := (-9999 : Int32)) hx hb dL_scripts_112 (by decide) ?_
              refine lv_icmp_ne (tgt := 211) hx hb dL_scripts_115 (by decide) (fun c_7 => ?_) (fun c_7 => ?_)
              · replace hf := ite_f c_7 hf
                exact bL_scripts_211 (z0 := z0) (x1 := x1) X hl0 (A_tryAbout z0 (0 : Int32)) _ _ _ _ _ (by omega) (by omega) hW0 hS (lv_sub hl [3, 4, 2] rfl) hf
              · replace hf := ite_t c_7 hf
                refine lv_aload_n hx hb dL_scripts_118 rfl (lv_at hl 3 rfl) ?_
                refine lv_iconst (v := (1 : Int32)) hx hb dL_scripts_119 (by decide) ?_
                refine lv_ldc2 (v := (5512 : Int64)) hx hb hown (X.2.2.2.2.2.1 _ wL_scripts_229) dL_scripts_120 ?_
                refine kA (As := [.ref (ad0 360), .int (1 : Int32), .long (5512 : Int64)]) (rest := []) X (fun q h => h) hW0 hS (tI_tryScript l D cy ad0 ba0 hl0 z0 (1 : Int32) (5512 : Int64)) (vx_cwSW (hh := [(0, 6, 7, 13)]) 3 X.2.2.2.2.2.1 gL_scripts_L_tryScript rfl rfl rfl kdL_tryScript.2 ⟨(Nat.le_of_ble_eq_true rfl), (Nat.le_of_ble_eq_true rfl)⟩) rfl rfl hl.1 (Nat.le_of_ble_eq_true rfl) ⟨by show _ ≤ 28; omega, by show _ ≤ 168; omega⟩ dL_scripts_123 (fun H locs hW0 hS hz hk => ?_)
                clear hz hk
                refine lv_if_ne (tgt := 211) hx hb dL_scripts_126 (by decide) (fun c_8 => ?_) (fun c_8 => ?_)
                · replace hf := ite_f c_8 hf
                  exact bL_scripts_211 (z0 := z0) (x1 := x1) X hl0 (A_tryAbout z0 (0 : Int32)) _ _ _ _ _ (by omega) (by omega) hW0 hS (lv_sub hl [3, 4, 2] rfl) hf
                · replace hf := ite_t c_8 hf
                  refine lv_aload_n hx hb dL_scripts_129 rfl (lv_at hl 3 rfl) ?_
                  refine lv_iconst (v := (1 : Int32)) hx hb dL_scripts_130 (by decide) ?_
                  refine lv_ldc2 (v := (5511 : Int64)) hx hb hown (X.2.2.2.2.2.1 _ wL_scripts_231) dL_scripts_131 ?_
                  refine kA (As := [.ref (ad0 360), .int (1 : Int32), .long (5511 : Int64)]) (rest := []) X (fun q h => h) hW0 hS (tI_tryScript l D cy ad0 ba0 hl0 z0 (1 : Int32) (5511 : Int64)) (vx_cwSW (hh := [(0, 6, 7, 13)]) 3 X.2.2.2.2.2.1 gL_scripts_L_tryScript rfl rfl rfl kdL_tryScript.2 ⟨(Nat.le_of_ble_eq_true rfl), (Nat.le_of_ble_eq_true rfl)⟩) rfl rfl hl.1 (Nat.le_of_ble_eq_true rfl) ⟨by show _ ≤ 28; omega, by show _ ≤ 168; omega⟩ dL_scripts_134 (fun H locs hW0 hS hz hk => ?_)
                  clear hz hk
                  refine lv_sipush (v := (-9999 : Int32)) hx hb dL_scripts_137 (by decide) ?_
                  refine lv_icmp_ne (tgt := 211) hx hb dL_scripts_140 (by decide) (fun c_9 => ?_) (fun c_9 => ?_)
                  · replace hf := ite_f c_9 hf
                    exact bL_scripts_211 (z0 := z0) (x1 := x1) X hl0 (A_tryAbout z0 (0 : Int32)) _ _ _ _ _ (by omega) (by omega) hW0 hS (lv_sub hl [3, 4, 2] rfl) hf
                  · replace hf := ite_t c_9 hf
                    refine lv_aload_n hx hb dL_scripts_143 rfl (lv_at hl 3 rfl) ?_
                    refine lv_iconst (v := (1 : Int32)) hx hb dL_scripts_144 (by decide) ?_
                    refine lv_ldc2 (v := (6040 : Int64)) hx hb hown (X.2.2.2.2.2.1 _ wL_scripts_233) dL_scripts_145 ?_
                    refine kA (As := [.ref (ad0 360), .int (1 : Int32), .long (6040 : Int64)]) (rest := []) X (fun q h => h) hW0 hS (tI_tryScript l D cy ad0 ba0 hl0 z0 (1 : Int32) (6040 : Int64)) (vx_cwSW (hh := [(0, 6, 7, 13)]) 3 X.2.2.2.2.2.1 gL_scripts_L_tryScript rfl rfl rfl kdL_tryScript.2 ⟨(Nat.le_of_ble_eq_true rfl), (Nat.le_of_ble_eq_true rfl)⟩) rfl rfl hl.1 (Nat.le_of_ble_eq_true rfl) ⟨by show _ ≤ 28; omega, by show _ ≤ 168; omega⟩ dL_scripts_148 (fun H locs hW0 hS hz hk => ?_)
                    clear hz hk
                    refine lv_if_ne (tgt := 211) hx hb dL_scripts_151 (by decide) (fun c_10 => ?_) (fun c_10 => ?_)
                    · replace hf := ite_f c_10 hf
                      exact bL_scripts_211 (z0 := z0) (x1 := x1) X hl0 (A_tryAbout z0 (0 : Int32)) _ _ _ _ _ (by omega) (by omega) hW0 hS (lv_sub hl [3, 4, 2] rfl) hf
                    · replace hf := ite_t c_10 hf
                      refine lv_aload_n hx hb dL_scripts_154 rfl (lv_at hl 3 rfl) ?_
                      refine lv_iconst (v := (1 : Int32)) hx hb dL_scripts_155 (by decide) ?_
                      refine lv_ldc2 (v := (8009 : Int64)) hx hb hown (X.2.2.2.2.2.1 _ wL_scripts_235) dL_scripts_156 ?_
                      refine kA (As := [.ref (ad0 360), .int (1 : Int32), .long (8009 : Int64)]) (rest := []) X (fun q h => h) hW0 hS (tI_tryScript l D cy ad0 ba0 hl0 z0 (1 : Int32) (8009 : Int64)) (vx_cwSW (hh := [(0, 6, 7, 13)]) 3 X.2.2.2.2.2.1 gL_scripts_L_tryScript rfl rfl rfl kdL_tryScript.2 ⟨(Nat.le_of_ble_eq_true rfl), (Nat.le_of_ble_eq_true rfl)⟩) rfl rfl hl.1 (Nat.le_of_ble_eq_true rfl) ⟨by show _ ≤ 28; omega, by show _ ≤ 168; omega⟩ dL_scripts_159 (fun H locs hW0 hS hz hk => ?_)
                      clear hz hk
                      refine lv_if_ne (tgt := 211) hx hb dL_scripts_162 (by decide) (fun c_11 => ?_) (fun c_11 => ?_)
                      · replace hf := ite_f c_11 hf
                        exact bL_scripts_211 (z0 := z0) (x1 := x1) X hl0 (A_tryAbout z0 (0 : Int32)) _ _ _ _ _ (by omega) (by omega) hW0 hS (lv_sub hl [3, 4, 2] rfl) hf
                      · replace hf := ite_t c_11 hf
                        refine lv_aload_n hx hb dL_scripts_165 rfl (lv_at hl 3 rfl) ?_
                        refine lv_iconst (v := (1 : Int32)) hx hb dL_scripts_166 (by decide) ?_
                        refine lv_lconst (v := (0 : Int64)) hx hb dL_scripts_167 (by decide) ?_
                        refine kA (As := [.ref (ad0 360), .int (1 : Int32), .long (0 : Int64)]) (rest := []) X (fun q h => h) hW0 hS (tI_tryScript l D cy ad0 ba0 hl0 z0 (1 : Int32) (0 : Int64)) (vx_cwSW (hh := [(0, 6, 7, 13)]) 3 X.2.2.2.2.2.1 gL_scripts_L_tryScript rfl rfl rfl kdL_tryScript.2 ⟨(Nat.le_of_ble_eq_true rfl), (Nat.le_of_ble_eq_true rfl)⟩) rfl rfl hl.1 (Nat.le_of_ble_eq_true rfl) ⟨by show _ ≤ 28; omega, by show _ ≤ 168; omega⟩ dL_scripts_168 (fun H locs hW0 hS hz hk => ?_)
                        clear hz hk
                        refine lv_if_ne (tgt := 211) hx hb dL_scripts_171 (by decide) (fun c_12 => ?_) (fun c_12 => ?_)
                        · replace hf := ite_f c_12 hf
                          exact bL_scripts_211 (z0 := z0) (x1 := x1) X hl0 (A_tryAbout z0 (0 : Int32)) _ _ _ _ _ (by omega) (by omega) hW0 hS (lv_sub hl [3, 4, 2] rfl) hf
                        · replace hf := ite_t c_12 hf
                          refine lv_iload hx hb dL_scripts_174 (lv_at hl 0 rfl) ?_
                          refine lv_sipush (v := (-891 : Int32)) hx hb dL_scripts_176 (by decide) ?_
                          refine lv_icmp_lt (tgt := 211) hx hb dL_scripts_179 (by decide) (fun c_13 => ?_) (fun c_13 => ?_)
                          · replace hf := ite_t c_13 hf
                            exact bL_scripts_211 (z0 := z0) (x1 := x1) X hl0 (A_tryAbout z0 (0 : Int32)) _ _ _ _ _ (by omega) (by omega) hW0 hS (lv_sub hl [3, 4, 2] rfl) hf
                          · replace hf := ite_f c_13 hf
                            refine lv_iload hx hb dL_scripts_182 (lv_at hl 0 rfl) ?_
                            refine lv_sipush (v := (891 : Int32)) hx hb dL_scripts_184 (by decide) ?_
                            refine lv_icmp_gt (tgt := 211) hx hb dL_scripts_187 (by decide) (fun c_14 => ?_) (fun c_14 => ?_)
                            · replace hf := ite_t c_14 hf
                              exact bL_scripts_211 (z0 := z0) (x1 := x1) X hl0 (A_tryAbout z0 (0 : Int32)) _ _ _ _ _ (by omega) (by omega) hW0 hS (lv_sub hl [3, 4, 2] rfl) hf
                            · replace hf := ite_f c_14 hf
                              refine lv_iload hx hb dL_scripts_190 (lv_at hl 0 rfl) ?_
                              refine lv_aload_n hx hb dL_scripts_192 rfl (lv_at hl 3 rfl) ?_
                              refine lv_iload_n hx hb dL_scripts_193 rfl (lv_at hl 4 rfl) ?_
                              refine lv_i2l hx hb dL_scripts_194 rfl ?_
                              refine lv_ldc2 (v := (157 : Int64)) hx hb hown (X.2.2.2.2.2.1 _ wL_scripts_213) dL_scripts_195 ?_
                              refine lv_lmul hx hb dL_scripts_198 ?_
                              refine lv_bipush (v := (15 : Int32)) hx hb dL_scripts_199 (by decide) ?_
                              refine kA (As := [.ref (ad0 360), .long ((x1).toInt64 * (157 : Int64)), .int (15 : Int32)]) (rest := [.int (A_trySimulate z0 ((x1).toInt64 * (157 : Int64)) (15 : Int32))]) X (fun q h => h) hW0 hS (tI_trySimulate l D cy ad0 ba0 hl0 z0 ((x1).toInt64 * (157 : Int64)) (15 : Int32)) (vx_cwSW (hh := [(0, 6, 7, 13)]) 3 X.2.2.2.2.2.1 gL_scripts_L_trySimulate rfl rfl rfl kdL_trySimulate.2 ⟨(Nat.le_of_ble_eq_true rfl), (Nat.le_of_ble_eq_true rfl)⟩) rfl rfl hl.1 (Nat.le_of_ble_eq_true rfl) ⟨by show _ ≤ 28; omega, by show _ ≤ 168; omega⟩ dL_scripts_201 (fun H locs hW0 hS hz hk => ?_)
                              clear hz hk
                              refine lv_icmp_ne (tgt := 211) hx hb dL_scripts_204 (by decide) (fun c_15 => ?_) (fun c_15 => ?_)
                              · replace hf := ite_f c_15 hf
                                exact bL_scripts_211 (z0 := z0) (x1 := x1) X hl0 (A_tryAbout z0 (0 : Int32)) _ _ _ _ _ (by omega) (by omega) hW0 hS (lv_sub hl [3, 4, 2] rfl) hf
                              · replace hf := ite_t c_15 hf
                                refine lv_iconst (v := (1 : Int32)) hx hb dL_scripts_207 (by decide) ?_
                                refine lv_goto (tgt := 212) hx hb dL_scripts_208 (by decide) ?_
                                exact bL_scripts_212 (z0 := z0) (x1 := x1) X hl0 (A_tryAbout z0 (0 : Int32)) (1 : Int32) _ _ _ _ _ (by omega) (by omega) hW0 hS (lv_sub hl [3, 4, 2] rfl) hf
theorem zcL_scripts (l : Launch) (D : va_G) (cy : Nat → ClassId) (ad0 : Nat → Nat) (ba0 : Nat → Prop) (hl0 : l.stackTraces = false) {z0 : aS} {x1 : Int32} (res : Int32) (hf : hL_scripts z0 x1 = some res) : aJ l yL_scripts wsL_scripts rmL_scripts 28 168 D cy ba0 (aR D cy ad0 ba0 z0) false 0 0 (fun _ => 0) [.ref (ad0 360), .int x1] res (aR D cy ad0 ba0 z0) :=
  a_of (by decide) rfl (Nat.le_of_ble_eq_true rfl) (fun p e s m below meth c ls X hW hX hS hl => bL_scripts_0 (z0 := z0) (x1 := x1) X hl0 _ _ _ 0 0 (Nat.le_of_ble_eq_true rfl) (Nat.le_of_ble_eq_true rfl) hW hS hl hf)
