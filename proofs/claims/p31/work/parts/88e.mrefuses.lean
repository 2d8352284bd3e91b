abbrev rmL_refuses : Room := { frames := 10, cells := 44, slots := 264, locals := 210 }
theorem kdL_refuses : yL_refuses.cls = RL ∧ yL_refuses.cls ≠ "java/lang/invoke/MethodHandle" ∧ yL_refuses.cls ≠ "java/lang/invoke/VarHandle" ∧ (parseMethodDescriptor yL_refuses.desc).map (fun d => d.parameters.length) = some 1 := by decide +kernel
theorem wL_refuses_15 : Cond.constant RL 15 (-99002) ∈ wsL_refuses := by decide +kernel
theorem wL_refuses_32 : Cond.constant RL 32 (-99001) ∈ wsL_refuses := by decide +kernel
theorem wL_refuses_191 : Cond.constantLong RL 191 (10000) ∈ wsL_refuses := by decide +kernel
theorem wL_refuses_18 : Cond.constant RL 18 (-99003) ∈ wsL_refuses := by decide +kernel
set_option maxRecDepth 100000 in
set_option maxHeartbeats 4000000 in
theorem bL_refuses_584 {p : Program} {l : Launch} {e : Env} {s : State} {m : MethodId} {args : Array Value} {below : List Frame} {meth : Method} {c : Code} {D : va_G} {cy : Nat → ClassId} {ad0 : Nat → Nat} {ba0 : Nat → Prop} {res : (Int32 × aS)} (X : teC wsL_refuses RL cL_refuses 4 (some .boolean) D cy ba0 p s m args meth c) (hl0 : l.stackTraces = false) : ∀ (z0 : aS) (H : Heap) (locs : List Loc) (ls : Array Slot) (ce sl : Nat), ce + (0) ≤ 44 → sl + (0) ≤ 264 → aR D cy ad0 ba0 z0 H → va_S ba0 s.heap H locs → lv_has ls 4 [] → hL_refuses_584 z0 = some res → W p l e (headSpec wsL_refuses rmL_refuses).room s m args below meth c H locs ce sl (MQ below (va_Qi (fun a (_ : Unit) => a = res.1) (fun _ t => (aR D cy ad0 ba0 res.2) t.heap) ba0) args s 44 264 ba0) (F0 m 584 ls []) := by
  have hx := X.1
  have hb := X.2.1
  have hown := X.2.2.2.2.1
  intro z0 H locs ls ce sl hb1_ hb2_ hW0 hS hl hf
  unfold hL_refuses_584 at hf
  refine lv_iconst (v := (0 : Int32)) hx hb dL_refuses_584 (by decide) ?_
  cases Option.some.inj hf
  exact eKz (v := (0 : Int32)) X hW0 hS (by decide) rfl (by omega) (by omega) dL_refuses_585
set_option maxRecDepth 100000 in
set_option maxHeartbeats 4000000 in
theorem bL_refuses_490 {p : Program} {l : Launch} {e : Env} {s : State} {m : MethodId} {args : Array Value} {below : List Frame} {meth : Method} {c : Code} {D : va_G} {cy : Nat → ClassId} {ad0 : Nat → Nat} {ba0 : Nat → Prop} {res : (Int32 × aS)} (X : teC wsL_refuses RL cL_refuses 4 (some .boolean) D cy ba0 p s m args meth c) (hl0 : l.stackTraces = false) : ∀ (z0 : aS) (v1 : Int32) (H : Heap) (locs : List Loc) (ls : Array Slot) (ce sl : Nat), ce + (8) ≤ 44 → sl + (48) ≤ 264 → aR D cy ad0 ba0 z0 H → va_S ba0 s.heap H locs → lv_has ls 4 [(0, .ref (ad0 360)), (1, .int v1)] → hL_refuses_490 z0 v1 = some res → W p l e (headSpec wsL_refuses rmL_refuses).room s m args below meth c H locs ce sl (MQ below (va_Qi (fun a (_ : Unit) => a = res.1) (fun _ t => (aR D cy ad0 ba0 res.2) t.heap) ba0) args s 44 264 ba0) (F0 m 490 ls []) := by
  have hx := X.1
  have hb := X.2.1
  have hown := X.2.2.2.2.1
  intro z0 v1 H locs ls ce sl hb1_ hb2_ hW0 hS hl hf
  unfold hL_refuses_490 at hf
  refine lv_aload_n hx hb dL_refuses_490 rfl (lv_at hl 0 rfl) ?_
  refine lv_iload_n hx hb dL_refuses_491 rfl (lv_at hl 1 rfl) ?_
  refine lv_iconst (v := (0 : Int32)) hx hb dL_refuses_492 (by decide) ?_
  refine kA (As := [.ref (ad0 360), .int v1, .int (0 : Int32)]) (rest := []) X (fun q h => h) hW0 hS (tI_tryLevelAfter l D cy ad0 ba0 hl0 z0 v1 (0 : Int32)) (vx_cwSW (hh := [(0, 6, 7, 30), (0, 6, 11, 13)]) 3 X.2.2.2.2.2.1 gL_refuses_L_tryLevelAfter rfl rfl rfl kdL_tryLevelAfter.2 ⟨(Nat.le_of_ble_eq_true rfl), (Nat.le_of_ble_eq_true rfl)⟩) rfl rfl hl.1 (Nat.le_of_ble_eq_true rfl) ⟨by show _ ≤ 44; omega, by show _ ≤ 264; omega⟩ dL_refuses_493 (fun H locs hW0 hS hz hk => ?_)
  clear hz hk
  refine lv_ldc (v := (-99001 : Int32)) hx hb hown (X.2.2.2.2.2.1 _ wL_refuses_32) dL_refuses_496 ?_
  refine lv_icmp_ne (tgt := 584) hx hb dL_refuses_498 (by decide) (fun c_32 => ?_) (fun c_32 => ?_)
  · replace hf := ite_f c_32 hf
    exact bL_refuses_584 X hl0 z0 _ _ _ _ _ (by omega) (by omega) hW0 hS (lv_sub hl [] rfl) hf
  · replace hf := ite_t c_32 hf
    refine lv_aload_n hx hb dL_refuses_501 rfl (lv_at hl 0 rfl) ?_
    refine lv_iload_n hx hb dL_refuses_502 rfl (lv_at hl 1 rfl) ?_
    refine lv_iconst (v := (0 : Int32)) hx hb dL_refuses_503 (by decide) ?_
    refine kA (As := [.ref (ad0 360), .int v1, .int (0 : Int32)]) (rest := []) X (fun q h => h) hW0 hS (tI_tryPartsAfter l D cy ad0 ba0 hl0 z0 v1 (0 : Int32)) (vx_cwSW (hh := [(0, 6, 7, 30), (0, 6, 11, 13), (0, 6, 15, 16)]) 3 X.2.2.2.2.2.1 gL_refuses_L_tryPartsAfter rfl rfl rfl kdL_tryPartsAfter.2 ⟨(Nat.le_of_ble_eq_true rfl), (Nat.le_of_ble_eq_true rfl)⟩) rfl rfl hl.1 (Nat.le_of_ble_eq_true rfl) ⟨by show _ ≤ 44; omega, by show _ ≤ 264; omega⟩ dL_refuses_504 (fun H locs hW0 hS hz hk => ?_)
    clear hz hk
    refine lv_ldc (v := (-99001 : Int32)) hx hb hown (X.2.2.2.2.2.1 _ wL_refuses_32) dL_refuses_507 ?_
    refine lv_icmp_ne (tgt := 584) hx hb dL_refuses_509 (by decide) (fun c_33 => ?_) (fun c_33 => ?_)
    · replace hf := ite_f c_33 hf
      exact bL_refuses_584 X hl0 z0 _ _ _ _ _ (by omega) (by omega) hW0 hS (lv_sub hl [] rfl) hf
    · replace hf := ite_t c_33 hf
      refine lv_aload_n hx hb dL_refuses_512 rfl (lv_at hl 0 rfl) ?_
      refine lv_iconst (v := (5 : Int32)) hx hb dL_refuses_513 (by decide) ?_
      refine lv_lconst (v := (0 : Int64)) hx hb dL_refuses_514 (by decide) ?_
      refine kA (As := [.ref (ad0 360), .int (5 : Int32), .long (0 : Int64)]) (rest := []) X (fun q h => h) hW0 hS (tI_tryScript l D cy ad0 ba0 hl0 z0 (5 : Int32) (0 : Int64)) (vx_cwSW (hh := [(0, 6, 7, 13)]) 3 X.2.2.2.2.2.1 gL_refuses_L_tryScript rfl rfl rfl kdL_tryScript.2 ⟨(Nat.le_of_ble_eq_true rfl), (Nat.le_of_ble_eq_true rfl)⟩) rfl rfl hl.1 (Nat.le_of_ble_eq_true rfl) ⟨by show _ ≤ 44; omega, by show _ ≤ 264; omega⟩ dL_refuses_515 (fun H locs hW0 hS hz hk => ?_)
      clear hz hk
      refine lv_ldc (v := (-99002 : Int32)) hx hb hown (X.2.2.2.2.2.1 _ wL_refuses_15) dL_refuses_518 ?_
      refine lv_icmp_ne (tgt := 584) hx hb dL_refuses_520 (by decide) (fun c_34 => ?_) (fun c_34 => ?_)
      · replace hf := ite_f c_34 hf
        exact bL_refuses_584 X hl0 z0 _ _ _ _ _ (by omega) (by omega) hW0 hS (lv_sub hl [] rfl) hf
      · replace hf := ite_t c_34 hf
        refine lv_aload_n hx hb dL_refuses_523 rfl (lv_at hl 0 rfl) ?_
        refine lv_iconst (v := (1 : Int32)) hx hb dL_refuses_524 (by decide) ?_
        refine lv_ldc2 (v := (10000 : Int64)) hx hb hown (X.2.2.2.2.2.1 _ wL_refuses_191) dL_refuses_525 ?_
        refine kA (As := [.ref (ad0 360), .int (1 : Int32), .long (10000 : Int64)]) (rest := []) X (fun q h => h) hW0 hS (tI_tryScript l D cy ad0 ba0 hl0 z0 (1 : Int32) (10000 : Int64)) (vx_cwSW (hh := [(0, 6, 7, 13)]) 3 X.2.2.2.2.2.1 gL_refuses_L_tryScript rfl rfl rfl kdL_tryScript.2 ⟨(Nat.le_of_ble_eq_true rfl), (Nat.le_of_ble_eq_true rfl)⟩) rfl rfl hl.1 (Nat.le_of_ble_eq_true rfl) ⟨by show _ ≤ 44; omega, by show _ ≤ 264; omega⟩ dL_refuses_528 (fun H locs hW0 hS hz hk => ?_)
        clear hz hk
        refine lv_ldc (v := (-99002 : Int32)) hx hb hown (X.2.2.2.2.2.1 _ wL_refuses_15) dL_refuses_531 ?_
        refine lv_icmp_ne (tgt := 584) hx hb dL_refuses_533 (by decide) (fun c_35 => ?_) (fun c_35 => ?_)
        · replace hf := ite_f c_35 hf
          exact bL_refuses_584 X hl0 z0 _ _ _ _ _ (by omega) (by omega) hW0 hS (lv_sub hl [] rfl) hf
        · replace hf := ite_t c_35 hf
          refine lv_aload_n hx hb dL_refuses_536 rfl (lv_at hl 0 rfl) ?_
          refine lv_lconst (v := (1 : Int64)) hx hb dL_refuses_537 (by decide) ?_
          refine lv_bipush (v := (61 : Int32)) hx hb dL_refuses_538 (by decide) ?_
          refine kA (As := [.ref (ad0 360), .long (1 : Int64), .int (61 : Int32)]) (rest := []) X (fun q h => h) hW0 hS (tI_trySimulate l D cy ad0 ba0 hl0 z0 (1 : Int64) (61 : Int32)) (vx_cwSW (hh := [(0, 6, 7, 13)]) 3 X.2.2.2.2.2.1 gL_refuses_L_trySimulate rfl rfl rfl kdL_trySimulate.2 ⟨(Nat.le_of_ble_eq_true rfl), (Nat.le_of_ble_eq_true rfl)⟩) rfl rfl hl.1 (Nat.le_of_ble_eq_true rfl) ⟨by show _ ≤ 44; omega, by show _ ≤ 264; omega⟩ dL_refuses_540 (fun H locs hW0 hS hz hk => ?_)
          clear hz hk
          refine lv_ldc (v := (-99002 : Int32)) hx hb hown (X.2.2.2.2.2.1 _ wL_refuses_15) dL_refuses_543 ?_
          refine lv_icmp_ne (tgt := 584) hx hb dL_refuses_545 (by decide) (fun c_36 => ?_) (fun c_36 => ?_)
          · replace hf := ite_f c_36 hf
            exact bL_refuses_584 X hl0 z0 _ _ _ _ _ (by omega) (by omega) hW0 hS (lv_sub hl [] rfl) hf
          · replace hf := ite_t c_36 hf
            refine lv_aload_n hx hb dL_refuses_548 rfl (lv_at hl 0 rfl) ?_
            refine lv_iconst (v := (2 : Int32)) hx hb dL_refuses_549 (by decide) ?_
            obtain ⟨r_37, z0_4, hq_38, hf⟩ := bd2_some hf
            refine kA (As := [.ref (ad0 360), .int (2 : Int32)]) (rest := []) X (fun q h => h) hW0 hS (tI_trySave l D cy ad0 ba0 hl0 hq_38) (vx_cwSW (hh := [(0, 5, 6, 30)]) 2 X.2.2.2.2.2.1 gL_refuses_L_trySave rfl rfl rfl kdL_trySave.2 ⟨(Nat.le_of_ble_eq_true rfl), (Nat.le_of_ble_eq_true rfl)⟩) rfl rfl hl.1 (Nat.le_of_ble_eq_true rfl) ⟨by show _ ≤ 44; omega, by show _ ≤ 264; omega⟩ dL_refuses_550 (fun H locs hW0 hS hz hk => ?_)
            clear hz hk
            refine lv_ldc (v := (-99001 : Int32)) hx hb hown (X.2.2.2.2.2.1 _ wL_refuses_32) dL_refuses_553 ?_
            refine lv_icmp_ne (tgt := 584) hx hb dL_refuses_555 (by decide) (fun c_39 => ?_) (fun c_39 => ?_)
            · replace hf := ite_f c_39 hf
              exact bL_refuses_584 X hl0 z0_4 _ _ _ _ _ (by omega) (by omega) hW0 hS (lv_sub hl [] rfl) hf
            · replace hf := ite_t c_39 hf
              refine lv_aload_n hx hb dL_refuses_558 rfl (lv_at hl 0 rfl) ?_
              refine lv_iconst (v := (-1 : Int32)) hx hb dL_refuses_559 (by decide) ?_
              obtain ⟨r_40, z0_5, hq_41, hf⟩ := bd2_some hf
              refine kA (As := [.ref (ad0 360), .int (-1 : Int32)]) (rest := []) X (fun q h => h) hW0 hS (tI_tryRestore l D cy ad0 ba0 hl0 hq_41) (vx_cwSW (hh := [(0, 5, 6, 30), (0, 5, 10, 16)]) 2 X.2.2.2.2.2.1 gL_refuses_L_tryRestore rfl rfl rfl kdL_tryRestore.2 ⟨(Nat.le_of_ble_eq_true rfl), (Nat.le_of_ble_eq_true rfl)⟩) rfl rfl hl.1 (Nat.le_of_ble_eq_true rfl) ⟨by show _ ≤ 44; omega, by show _ ≤ 264; omega⟩ dL_refuses_560 (fun H locs hW0 hS hz hk => ?_)
              clear hz hk
              refine lv_ldc (v := (-99001 : Int32)) hx hb hown (X.2.2.2.2.2.1 _ wL_refuses_32) dL_refuses_563 ?_
              refine lv_icmp_ne (tgt := 584) hx hb dL_refuses_565 (by decide) (fun c_42 => ?_) (fun c_42 => ?_)
              · replace hf := ite_f c_42 hf
                exact bL_refuses_584 X hl0 z0_5 _ _ _ _ _ (by omega) (by omega) hW0 hS (lv_sub hl [] rfl) hf
              · replace hf := ite_t c_42 hf
                refine lv_aload_n hx hb dL_refuses_568 rfl (lv_at hl 0 rfl) ?_
                refine lv_sipush (v := (256 : Int32)) hx hb dL_refuses_569 (by decide) ?_
                obtain ⟨r_43, z0_6, hq_44, hf⟩ := bd2_some hf
                refine kA (As := [.ref (ad0 360), .int (256 : Int32)]) (rest := []) X (fun q h => h) hW0 hS (tI_tryAppend l D cy ad0 ba0 hl0 hq_44) (vx_cwSW (hh := [(0, 5, 6, 13), (0, 5, 10, 16)]) 2 X.2.2.2.2.2.1 gL_refuses_L_tryAppend rfl rfl rfl kdL_tryAppend.2 ⟨(Nat.le_of_ble_eq_true rfl), (Nat.le_of_ble_eq_true rfl)⟩) rfl rfl hl.1 (Nat.le_of_ble_eq_true rfl) ⟨by show _ ≤ 44; omega, by show _ ≤ 264; omega⟩ dL_refuses_572 (fun H locs hW0 hS hz hk => ?_)
                clear hz hk
                refine lv_ldc (v := (-99002 : Int32)) hx hb hown (X.2.2.2.2.2.1 _ wL_refuses_15) dL_refuses_575 ?_
                refine lv_icmp_ne (tgt := 584) hx hb dL_refuses_577 (by decide) (fun c_45 => ?_) (fun c_45 => ?_)
                · replace hf := ite_f c_45 hf
                  exact bL_refuses_584 X hl0 z0_6 _ _ _ _ _ (by omega) (by omega) hW0 hS (lv_sub hl [] rfl) hf
                · replace hf := ite_t c_45 hf
                  refine lv_iconst (v := (1 : Int32)) hx hb dL_refuses_580 (by decide) ?_
                  refine lv_goto (tgt := 585) hx hb dL_refuses_581 (by decide) ?_
                  cases Option.some.inj hf
                  exact eKz (v := (1 : Int32)) X hW0 hS (by decide) rfl (by omega) (by omega) dL_refuses_585
set_option maxRecDepth 100000 in
set_option maxHeartbeats 4000000 in
theorem bL_refuses_333 {p : Program} {l : Launch} {e : Env} {s : State} {m : MethodId} {args : Array Value} {below : List Frame} {meth : Method} {c : Code} {D : va_G} {cy : Nat → ClassId} {ad0 : Nat → Nat} {ba0 : Nat → Prop} {res : (Int32 × aS)} (X : teC wsL_refuses RL cL_refuses 4 (some .boolean) D cy ba0 p s m args meth c) (hl0 : l.stackTraces = false) : ∀ (z0 : aS) (v1 : Int32) (y0 : Int32) (H : Heap) (locs : List Loc) (ls : Array Slot) (ce sl : Nat), ce + (20) ≤ 44 → sl + (120) ≤ 264 → aR D cy ad0 ba0 z0 H → va_S ba0 s.heap H locs → lv_has ls 4 [(0, .ref (ad0 360)), (1, .int v1)] → hL_refuses_333 z0 v1 y0 = some res → W p l e (headSpec wsL_refuses rmL_refuses).room s m args below meth c H locs ce sl (MQ below (va_Qi (fun a (_ : Unit) => a = res.1) (fun _ t => (aR D cy ad0 ba0 res.2) t.heap) ba0) args s 44 264 ba0) (F0 m 333 ls [.int y0]) := by
  have hx := X.1
  have hb := X.2.1
  have hown := X.2.2.2.2.1
  intro z0 v1 y0 H locs ls ce sl hb1_ hb2_ hW0 hS hl hf
  unfold hL_refuses_333 at hf
  refine lv_istore_n (lv' := [(3, .int y0), (0, .ref (ad0 360)), (1, .int v1)]) hx hb dL_refuses_333 rfl hl (by decide) rfl (fun ls hl => ?_)
  refine lv_iload_n hx hb dL_refuses_334 rfl (lv_at hl 0 rfl) ?_
  refine lv_if_eq (tgt := 584) hx hb dL_refuses_335 (by decide) (fun c_10 => ?_) (fun c_10 => ?_)
  · replace hf := ite_t c_10 hf
    exact bL_refuses_584 X hl0 z0 _ _ _ _ _ (by omega) (by omega) hW0 hS (lv_sub hl [] rfl) hf
  · replace hf := ite_f c_10 hf
    refine lv_aload_n hx hb dL_refuses_338 rfl (lv_at hl 1 rfl) ?_
    refine lv_iconst (v := (0 : Int32)) hx hb dL_refuses_339 (by decide) ?_
    obtain ⟨r_11, z0_1, hq_12, hf⟩ := bd2_some hf
    refine kA (As := [.ref (ad0 360), .int (0 : Int32)]) (rest := []) X (fun q h => h) hW0 hS (tI_trySettle l D cy ad0 ba0 hl0 hq_12) (vx_cwSW (hh := [(0, 5, 6, 13)]) 2 X.2.2.2.2.2.1 gL_refuses_L_trySettle rfl rfl rfl kdL_trySettle.2 ⟨(Nat.le_of_ble_eq_true rfl), (Nat.le_of_ble_eq_true rfl)⟩) rfl rfl hl.1 (Nat.le_of_ble_eq_true rfl) ⟨by show _ ≤ 44; omega, by show _ ≤ 264; omega⟩ dL_refuses_340 (fun H locs hW0 hS hz hk => ?_)
    clear hz hk
    refine lv_ldc (v := (-99002 : Int32)) hx hb hown (X.2.2.2.2.2.1 _ wL_refuses_15) dL_refuses_343 ?_
    refine lv_icmp_ne (tgt := 584) hx hb dL_refuses_345 (by decide) (fun c_13 => ?_) (fun c_13 => ?_)
    · replace hf := ite_f c_13 hf
      exact bL_refuses_584 X hl0 z0_1 _ _ _ _ _ (by omega) (by omega) hW0 hS (lv_sub hl [] rfl) hf
    · replace hf := ite_t c_13 hf
      refine lv_aload_n hx hb dL_refuses_348 rfl (lv_at hl 1 rfl) ?_
      refine lv_bipush (v := (51 : Int32)) hx hb dL_refuses_349 (by decide) ?_
      obtain ⟨r_14, z0_2, hq_15, hf⟩ := bd2_some hf
      refine kA (As := [.ref (ad0 360), .int (51 : Int32)]) (rest := []) X (fun q h => h) hW0 hS (tI_trySettle l D cy ad0 ba0 hl0 hq_15) (vx_cwSW (hh := [(0, 5, 6, 13)]) 2 X.2.2.2.2.2.1 gL_refuses_L_trySettle rfl rfl rfl kdL_trySettle.2 ⟨(Nat.le_of_ble_eq_true rfl), (Nat.le_of_ble_eq_true rfl)⟩) rfl rfl hl.1 (Nat.le_of_ble_eq_true rfl) ⟨by show _ ≤ 44; omega, by show _ ≤ 264; omega⟩ dL_refuses_351 (fun H locs hW0 hS hz hk => ?_)
      clear hz hk
      refine lv_ldc (v := (-99002 : Int32)) hx hb hown (X.2.2.2.2.2.1 _ wL_refuses_15) dL_refuses_354 ?_
      refine lv_icmp_ne (tgt := 584) hx hb dL_refuses_356 (by decide) (fun c_16 => ?_) (fun c_16 => ?_)
      · replace hf := ite_f c_16 hf
        exact bL_refuses_584 X hl0 z0_2 _ _ _ _ _ (by omega) (by omega) hW0 hS (lv_sub hl [] rfl) hf
      · replace hf := ite_t c_16 hf
        refine lv_aload_n hx hb dL_refuses_359 rfl (lv_at hl 1 rfl) ?_
        refine lv_sipush (v := (512 : Int32)) hx hb dL_refuses_360 (by decide) ?_
        obtain ⟨r_17, z0_3, hq_18, hf⟩ := bd2_some hf
        refine kA (As := [.ref (ad0 360), .int (512 : Int32)]) (rest := []) X (fun q h => h) hW0 hS (tI_tryWeek l D cy ad0 ba0 hl0 hq_18) (vx_cwSW (hh := [(0, 5, 6, 13)]) 2 X.2.2.2.2.2.1 gL_refuses_L_tryWeek rfl rfl rfl kdL_tryWeek.2 ⟨(Nat.le_of_ble_eq_true rfl), (Nat.le_of_ble_eq_true rfl)⟩) rfl rfl hl.1 (Nat.le_of_ble_eq_true rfl) ⟨by show _ ≤ 44; omega, by show _ ≤ 264; omega⟩ dL_refuses_363 (fun H locs hW0 hS hz hk => ?_)
        clear hz hk
        refine lv_ldc (v := (-99002 : Int32)) hx hb hown (X.2.2.2.2.2.1 _ wL_refuses_15) dL_refuses_366 ?_
        refine lv_icmp_ne (tgt := 584) hx hb dL_refuses_368 (by decide) (fun c_19 => ?_) (fun c_19 => ?_)
        · replace hf := ite_f c_19 hf
          exact bL_refuses_584 X hl0 z0_3 _ _ _ _ _ (by omega) (by omega) hW0 hS (lv_sub hl [] rfl) hf
        · replace hf := ite_t c_19 hf
          refine lv_aload_n hx hb dL_refuses_371 rfl (lv_at hl 1 rfl) ?_
          refine lv_iconst (v := (-1 : Int32)) hx hb dL_refuses_372 (by decide) ?_
          refine lv_iconst (v := (1 : Int32)) hx hb dL_refuses_373 (by decide) ?_
          refine kA (As := [.ref (ad0 360), .int (-1 : Int32), .int (1 : Int32)]) (rest := []) X (fun q h => h) hW0 hS (tI_tryBlocking l D cy ad0 ba0 hl0 z0_3 (-1 : Int32) (1 : Int32)) (vx_cwSW (hh := [(0, 6, 7, 13)]) 3 X.2.2.2.2.2.1 gL_refuses_L_tryBlocking rfl rfl rfl kdL_tryBlocking.2 ⟨(Nat.le_of_ble_eq_true rfl), (Nat.le_of_ble_eq_true rfl)⟩) rfl rfl hl.1 (Nat.le_of_ble_eq_true rfl) ⟨by show _ ≤ 44; omega, by show _ ≤ 264; omega⟩ dL_refuses_374 (fun H locs hW0 hS hz hk => ?_)
          clear hz hk
          refine lv_ldc (v := (-99002 : Int32)) hx hb hown (X.2.2.2.2.2.1 _ wL_refuses_15) dL_refuses_377 ?_
          refine lv_icmp_ne (tgt := 584) hx hb dL_refuses_379 (by decide) (fun c_20 => ?_) (fun c_20 => ?_)
          · replace hf := ite_f c_20 hf
            exact bL_refuses_584 X hl0 z0_3 _ _ _ _ _ (by omega) (by omega) hW0 hS (lv_sub hl [] rfl) hf
          · replace hf := ite_t c_20 hf
            refine lv_aload_n hx hb dL_refuses_382 rfl (lv_at hl 1 rfl) ?_
            refine lv_iload_n hx hb dL_refuses_383 rfl (lv_at hl 2 rfl) ?_
            refine lv_iconst (v := (1 : Int32)) hx hb dL_refuses_384 (by decide) ?_
            refine kA (As := [.ref (ad0 360), .int v1, .int (1 : Int32)]) (rest := []) X (fun q h => h) hW0 hS (tI_tryBestPartner l D cy ad0 ba0 hl0 z0_3 v1 (1 : Int32)) (vx_cwSW (hh := [(0, 6, 7, 30)]) 3 X.2.2.2.2.2.1 gL_refuses_L_tryBestPartner rfl rfl rfl kdL_tryBestPartner.2 ⟨(Nat.le_of_ble_eq_true rfl), (Nat.le_of_ble_eq_true rfl)⟩) rfl rfl hl.1 (Nat.le_of_ble_eq_true rfl) ⟨by show _ ≤ 44; omega, by show _ ≤ 264; omega⟩ dL_refuses_385 (fun H locs hW0 hS hz hk => ?_)
            clear hz hk
            refine lv_ldc (v := (-99001 : Int32)) hx hb hown (X.2.2.2.2.2.1 _ wL_refuses_32) dL_refuses_388 ?_
            refine lv_icmp_ne (tgt := 584) hx hb dL_refuses_390 (by decide) (fun c_21 => ?_) (fun c_21 => ?_)
            · replace hf := ite_f c_21 hf
              exact bL_refuses_584 X hl0 z0_3 _ _ _ _ _ (by omega) (by omega) hW0 hS (lv_sub hl [] rfl) hf
            · replace hf := ite_t c_21 hf
              refine lv_aload_n hx hb dL_refuses_393 rfl (lv_at hl 1 rfl) ?_
              refine lv_iconst (v := (2 : Int32)) hx hb dL_refuses_394 (by decide) ?_
              refine kA (As := [.ref (ad0 360), .int (2 : Int32)]) (rest := []) X (fun q h => h) hW0 hS (tI_tryBest l D cy ad0 ba0 hl0 z0_3 (2 : Int32)) (vx_cwSW (hh := [(0, 5, 6, 13)]) 2 X.2.2.2.2.2.1 gL_refuses_L_tryBest rfl rfl rfl kdL_tryBest.2 ⟨(Nat.le_of_ble_eq_true rfl), (Nat.le_of_ble_eq_true rfl)⟩) rfl rfl hl.1 (Nat.le_of_ble_eq_true rfl) ⟨by show _ ≤ 44; omega, by show _ ≤ 264; omega⟩ dL_refuses_395 (fun H locs hW0 hS hz hk => ?_)
              clear hz hk
              refine lv_ldc (v := (-99002 : Int32)) hx hb hown (X.2.2.2.2.2.1 _ wL_refuses_15) dL_refuses_398 ?_
              refine lv_icmp_ne (tgt := 584) hx hb dL_refuses_400 (by decide) (fun c_22 => ?_) (fun c_22 => ?_)
              · replace hf := ite_f c_22 hf
                exact bL_refuses_584 X hl0 z0_3 _ _ _ _ _ (by omega) (by omega) hW0 hS (lv_sub hl [] rfl) hf
              · replace hf := ite_t c_22 hf
                refine lv_aload_n hx hb dL_refuses_403 rfl (lv_at hl 1 rfl) ?_
                refine lv_iload_n hx hb dL_refuses_404 rfl (lv_at hl 2 rfl) ?_
                refine lv_bipush (v := (61 : Int32)) hx hb dL_refuses_405 (by decide) ?_
                refine lv_sipush (v := (512 : Int32)) hx hb dL_refuses_407 (by decide) ?_
                refine lv_bipush (v := (11 : Int32)) hx hb dL_refuses_410 (by decide) ?_
                refine kA (As := [.ref (ad0 360), .int v1, .int (61 : Int32), .int (512 : Int32), .int (11 : Int32)]) (rest := []) X (fun q h => h) hW0 hS (tI_tryAhead l D cy ad0 ba0 hl0 z0_3 v1 (61 : Int32) (512 : Int32) (11 : Int32)) (vx_cwSW (hh := [(0, 9, 10, 30), (0, 9, 15, 13)]) 5 X.2.2.2.2.2.1 gL_refuses_L_tryAhead rfl rfl rfl kdL_tryAhead.2 ⟨(Nat.le_of_ble_eq_true rfl), (Nat.le_of_ble_eq_true rfl)⟩) rfl rfl hl.1 (Nat.le_of_ble_eq_true rfl) ⟨by show _ ≤ 44; omega, by show _ ≤ 264; omega⟩ dL_refuses_412 (fun H locs hW0 hS hz hk => ?_)
                clear hz hk
                refine lv_ldc (v := (-99001 : Int32)) hx hb hown (X.2.2.2.2.2.1 _ wL_refuses_32) dL_refuses_415 ?_
                refine lv_icmp_ne (tgt := 584) hx hb dL_refuses_417 (by decide) (fun c_23 => ?_) (fun c_23 => ?_)
                · replace hf := ite_f c_23 hf
                  exact bL_refuses_584 X hl0 z0_3 _ _ _ _ _ (by omega) (by omega) hW0 hS (lv_sub hl [] rfl) hf
                · replace hf := ite_t c_23 hf
                  refine lv_iload_n hx hb dL_refuses_420 rfl (lv_at hl 2 rfl) ?_
                  refine lv_if_eq (tgt := 490) hx hb dL_refuses_421 (by decide) (fun c_24 => ?_) (fun c_24 => ?_)
                  · replace hf := ite_t c_24 hf
                    exact bL_refuses_490 X hl0 z0_3 v1 _ _ _ _ _ (by omega) (by omega) hW0 hS (lv_sub hl [1, 2] rfl) hf
                  · replace hf := ite_f c_24 hf
                    refine lv_aload_n hx hb dL_refuses_424 rfl (lv_at hl 1 rfl) ?_
                    refine lv_iconst (v := (0 : Int32)) hx hb dL_refuses_425 (by decide) ?_
                    refine lv_bipush (v := (61 : Int32)) hx hb dL_refuses_426 (by decide) ?_
                    refine lv_iconst (v := (0 : Int32)) hx hb dL_refuses_428 (by decide) ?_
                    refine lv_iconst (v := (0 : Int32)) hx hb dL_refuses_429 (by decide) ?_
                    refine kA (As := [.ref (ad0 360), .int (0 : Int32), .int (61 : Int32), .int (0 : Int32), .int (0 : Int32)]) (rest := []) X (fun q h => h) hW0 hS (tI_tryAhead l D cy ad0 ba0 hl0 z0_3 (0 : Int32) (61 : Int32) (0 : Int32) (0 : Int32)) (vx_cwSW (hh := [(0, 9, 10, 30), (0, 9, 15, 13)]) 5 X.2.2.2.2.2.1 gL_refuses_L_tryAhead rfl rfl rfl kdL_tryAhead.2 ⟨(Nat.le_of_ble_eq_true rfl), (Nat.le_of_ble_eq_true rfl)⟩) rfl rfl hl.1 (Nat.le_of_ble_eq_true rfl) ⟨by show _ ≤ 44; omega, by show _ ≤ 264; omega⟩ dL_refuses_430 (fun H locs hW0 hS hz hk => ?_)
                    clear hz hk
                    refine lv_ldc (v := (-99002 : Int32)) hx hb hown (X.2.2.2.2.2.1 _ wL_refuses_15) dL_refuses_433 ?_
                    refine lv_icmp_ne (tgt := 584) hx hb dL_refuses_435 (by decide) (fun c_25 => ?_) (fun c_25 => ?_)
                    · replace hf := ite_f c_25 hf
                      exact bL_refuses_584 X hl0 z0_3 _ _ _ _ _ (by omega) (by omega) hW0 hS (lv_sub hl [] rfl) hf
                    · replace hf := ite_t c_25 hf
                      refine lv_aload_n hx hb dL_refuses_438 rfl (lv_at hl 1 rfl) ?_
                      refine lv_iconst (v := (0 : Int32)) hx hb dL_refuses_439 (by decide) ?_
                      refine lv_iconst (v := (0 : Int32)) hx hb dL_refuses_440 (by decide) ?_
                      refine lv_sipush (v := (512 : Int32)) hx hb dL_refuses_441 (by decide) ?_
                      refine lv_iconst (v := (0 : Int32)) hx hb dL_refuses_444 (by decide) ?_
                      refine kA (As := [.ref (ad0 360), .int (0 : Int32), .int (0 : Int32), .int (512 : Int32), .int (0 : Int32)]) (rest := []) X (fun q h => h) hW0 hS (tI_tryAhead l D cy ad0 ba0 hl0 z0_3 (0 : Int32) (0 : Int32) (512 : Int32) (0 : Int32)) (vx_cwSW (hh := [(0, 9, 10, 30), (0, 9, 15, 13)]) 5 X.2.2.2.2.2.1 gL_refuses_L_tryAhead rfl rfl rfl kdL_tryAhead.2 ⟨(Nat.le_of_ble_eq_true rfl), (Nat.le_of_ble_eq_true rfl)⟩) rfl rfl hl.1 (Nat.le_of_ble_eq_true rfl) ⟨by show _ ≤ 44; omega, by show _ ≤ 264; omega⟩ dL_refuses_445 (fun H locs hW0 hS hz hk => ?_)
                      clear hz hk
                      refine lv_ldc (v := (-99002 : Int32)) hx hb hown (X.2.2.2.2.2.1 _ wL_refuses_15) dL_refuses_448 ?_
                      refine lv_icmp_ne (tgt := 584) hx hb dL_refuses_450 (by decide) (fun c_26 => ?_) (fun c_26 => ?_)
                      · replace hf := ite_f c_26 hf
                        exact bL_refuses_584 X hl0 z0_3 _ _ _ _ _ (by omega) (by omega) hW0 hS (lv_sub hl [] rfl) hf
                      · replace hf := ite_t c_26 hf
                        refine lv_aload_n hx hb dL_refuses_453 rfl (lv_at hl 1 rfl) ?_
                        refine lv_iconst (v := (0 : Int32)) hx hb dL_refuses_454 (by decide) ?_
                        refine lv_iconst (v := (0 : Int32)) hx hb dL_refuses_455 (by decide) ?_
                        refine lv_iconst (v := (0 : Int32)) hx hb dL_refuses_456 (by decide) ?_
                        refine lv_bipush (v := (11 : Int32)) hx hb dL_refuses_457 (by decide) ?_
                        refine kA (As := [.ref (ad0 360), .int (0 : Int32), .int (0 : Int32), .int (0 : Int32), .int (11 : Int32)]) (rest := []) X (fun q h => h) hW0 hS (tI_tryAhead l D cy ad0 ba0 hl0 z0_3 (0 : Int32) (0 : Int32) (0 : Int32) (11 : Int32)) (vx_cwSW (hh := [(0, 9, 10, 30), (0, 9, 15, 13)]) 5 X.2.2.2.2.2.1 gL_refuses_L_tryAhead rfl rfl rfl kdL_tryAhead.2 ⟨(Nat.le_of_ble_eq_true rfl), (Nat.le_of_ble_eq_true rfl)⟩) rfl rfl hl.1 (Nat.le_of_ble_eq_true rfl) ⟨by show _ ≤ 44; omega, by show _ ≤ 264; omega⟩ dL_refuses_459 (fun H locs hW0 hS hz hk => ?_)
                        clear hz hk
                        refine lv_ldc (v := (-99002 : Int32)) hx hb hown (X.2.2.2.2.2.1 _ wL_refuses_15) dL_refuses_462 ?_
                        refine lv_icmp_ne (tgt := 584) hx hb dL_refuses_464 (by decide) (fun c_27 => ?_) (fun c_27 => ?_)
                        · replace hf := ite_f c_27 hf
                          exact bL_refuses_584 X hl0 z0_3 _ _ _ _ _ (by omega) (by omega) hW0 hS (lv_sub hl [] rfl) hf
                        · replace hf := ite_t c_27 hf
                          refine lv_aload_n hx hb dL_refuses_467 rfl (lv_at hl 1 rfl) ?_
                          refine lv_iconst (v := (0 : Int32)) hx hb dL_refuses_468 (by decide) ?_
                          refine lv_bipush (v := (10 : Int32)) hx hb dL_refuses_469 (by decide) ?_
                          refine kA (As := [.ref (ad0 360), .int (0 : Int32), .int (10 : Int32)]) (rest := []) X (fun q h => h) hW0 hS (tI_tryLevelAfter l D cy ad0 ba0 hl0 z0_3 (0 : Int32) (10 : Int32)) (vx_cwSW (hh := [(0, 6, 7, 30), (0, 6, 11, 13)]) 3 X.2.2.2.2.2.1 gL_refuses_L_tryLevelAfter rfl rfl rfl kdL_tryLevelAfter.2 ⟨(Nat.le_of_ble_eq_true rfl), (Nat.le_of_ble_eq_true rfl)⟩) rfl rfl hl.1 (Nat.le_of_ble_eq_true rfl) ⟨by show _ ≤ 44; omega, by show _ ≤ 264; omega⟩ dL_refuses_471 (fun H locs hW0 hS hz hk => ?_)
                          clear hz hk
                          refine lv_ldc (v := (-99002 : Int32)) hx hb hown (X.2.2.2.2.2.1 _ wL_refuses_15) dL_refuses_474 ?_
                          refine lv_icmp_ne (tgt := 584) hx hb dL_refuses_476 (by decide) (fun c_28 => ?_) (fun c_28 => ?_)
                          · replace hf := ite_f c_28 hf
                            exact bL_refuses_584 X hl0 z0_3 _ _ _ _ _ (by omega) (by omega) hW0 hS (lv_sub hl [] rfl) hf
                          · replace hf := ite_t c_28 hf
                            refine lv_aload_n hx hb dL_refuses_479 rfl (lv_at hl 1 rfl) ?_
                            refine lv_iconst (v := (0 : Int32)) hx hb dL_refuses_480 (by decide) ?_
                            refine lv_iconst (v := (-1 : Int32)) hx hb dL_refuses_481 (by decide) ?_
                            refine kA (As := [.ref (ad0 360), .int (0 : Int32), .int (-1 : Int32)]) (rest := []) X (fun q h => h) hW0 hS (tI_tryPartsAfter l D cy ad0 ba0 hl0 z0_3 (0 : Int32) (-1 : Int32)) (vx_cwSW (hh := [(0, 6, 7, 30), (0, 6, 11, 13), (0, 6, 15, 16)]) 3 X.2.2.2.2.2.1 gL_refuses_L_tryPartsAfter rfl rfl rfl kdL_tryPartsAfter.2 ⟨(Nat.le_of_ble_eq_true rfl), (Nat.le_of_ble_eq_true rfl)⟩) rfl rfl hl.1 (Nat.le_of_ble_eq_true rfl) ⟨by show _ ≤ 44; omega, by show _ ≤ 264; omega⟩ dL_refuses_482 (fun H locs hW0 hS hz hk => ?_)
                            clear hz hk
                            refine lv_ldc (v := (-99002 : Int32)) hx hb hown (X.2.2.2.2.2.1 _ wL_refuses_15) dL_refuses_485 ?_
                            refine lv_icmp_ne (tgt := 584) hx hb dL_refuses_487 (by decide) (fun c_29 => ?_) (fun c_29 => ?_)
                            · replace hf := ite_f c_29 hf
                              exact bL_refuses_584 X hl0 z0_3 _ _ _ _ _ (by omega) (by omega) hW0 hS (lv_sub hl [] rfl) hf
                            · replace hf := ite_t c_29 hf
                              exact bL_refuses_490 X hl0 z0_3 v1 _ _ _ _ _ (by omega) (by omega) hW0 hS (lv_sub hl [1, 2] rfl) hf
set_option maxRecDepth 100000 in
set_option maxHeartbeats 4000000 in
theorem bL_refuses_332 {p : Program} {l : Launch} {e : Env} {s : State} {m : MethodId} {args : Array Value} {below : List Frame} {meth : Method} {c : Code} {D : va_G} {cy : Nat → ClassId} {ad0 : Nat → Nat} {ba0 : Nat → Prop} {res : (Int32 × aS)} (X : teC wsL_refuses RL cL_refuses 4 (some .boolean) D cy ba0 p s m args meth c) (hl0 : l.stackTraces = false) : ∀ (z0 : aS) (v1 : Int32) (H : Heap) (locs : List Loc) (ls : Array Slot) (ce sl : Nat), ce + (20) ≤ 44 → sl + (120) ≤ 264 → aR D cy ad0 ba0 z0 H → va_S ba0 s.heap H locs → lv_has ls 4 [(0, .ref (ad0 360)), (1, .int v1)] → hL_refuses_332 z0 v1 = some res → W p l e (headSpec wsL_refuses rmL_refuses).room s m args below meth c H locs ce sl (MQ below (va_Qi (fun a (_ : Unit) => a = res.1) (fun _ t => (aR D cy ad0 ba0 res.2) t.heap) ba0) args s 44 264 ba0) (F0 m 332 ls []) := by
  have hx := X.1
  have hb := X.2.1
  have hown := X.2.2.2.2.1
  intro z0 v1 H locs ls ce sl hb1_ hb2_ hW0 hS hl hf
  unfold hL_refuses_332 at hf
  refine lv_iconst (v := (0 : Int32)) hx hb dL_refuses_332 (by decide) ?_
  exact bL_refuses_333 X hl0 z0 v1 (0 : Int32) _ _ _ _ _ (by omega) (by omega) hW0 hS (lv_sub hl [0, 1] rfl) hf
set_option maxRecDepth 100000 in
set_option maxHeartbeats 4000000 in
theorem bL_refuses_289 {p : Program} {l : Launch} {e : Env} {s : State} {m : MethodId} {args : Array Value} {below : List Frame} {meth : Method} {c : Code} {D : va_G} {cy : Nat → ClassId} {ad0 : Nat → Nat} {ba0 : Nat → Prop} {res : (Int32 × aS)} (X : teC wsL_refuses RL cL_refuses 4 (some .boolean) D cy ba0 p s m args meth c) (hl0 : l.stackTraces = false) : ∀ (z0 : aS) (v1 : Int32) (v2 : Int32) (H : Heap) (locs : List Loc) (ls : Array Slot) (ce sl : Nat), ce + (23) ≤ 44 → sl + (138) ≤ 264 → aR D cy ad0 ba0 z0 H → va_S ba0 s.heap H locs → lv_has ls 4 [(0, .ref (ad0 360)), (1, .int v1), (2, .int v2)] → hL_refuses_289 z0 v1 v2 = some res → W p l e (headSpec wsL_refuses rmL_refuses).room s m args below meth c H locs ce sl (MQ below (va_Qi (fun a (_ : Unit) => a = res.1) (fun _ t => (aR D cy ad0 ba0 res.2) t.heap) ba0) args s 44 264 ba0) (F0 m 289 ls []) := by
  have hx := X.1
  have hb := X.2.1
  have hown := X.2.2.2.2.1
  intro z0 v1 v2 H locs ls ce sl hb1_ hb2_ hW0 hS hl hf
  unfold hL_refuses_289 at hf
  refine lv_aload_n hx hb dL_refuses_289 rfl (lv_at hl 0 rfl) ?_
  refine lv_iload_n hx hb dL_refuses_290 rfl (lv_at hl 1 rfl) ?_
  obtain ⟨r_90, z0_20, hq_91, hf⟩ := bd2_some hf
  refine kA (As := [.ref (ad0 360), .int v1]) (rest := []) X (fun q h => h) hW0 hS (tI_tryPart l D cy ad0 ba0 hl0 hq_91) (vx_cwSW (hh := [(0, 5, 6, 30), (0, 5, 10, 16)]) 2 X.2.2.2.2.2.1 gL_refuses_L_tryPart rfl rfl rfl kdL_tryPart.2 ⟨(Nat.le_of_ble_eq_true rfl), (Nat.le_of_ble_eq_true rfl)⟩) rfl rfl hl.1 (Nat.le_of_ble_eq_true rfl) ⟨by show _ ≤ 44; omega, by show _ ≤ 264; omega⟩ dL_refuses_291 (fun H locs hW0 hS hz hk => ?_)
  clear hz hk
  refine lv_ldc (v := (-99001 : Int32)) hx hb hown (X.2.2.2.2.2.1 _ wL_refuses_32) dL_refuses_294 ?_
  refine lv_icmp_ne (tgt := 332) hx hb dL_refuses_296 (by decide) (fun c_92 => ?_) (fun c_92 => ?_)
  · replace hf := ite_f c_92 hf
    exact bL_refuses_332 X hl0 z0_20 v1 _ _ _ _ _ (by omega) (by omega) hW0 hS (lv_sub hl [0, 1] rfl) hf
  · replace hf := ite_t c_92 hf
    refine lv_iload_n hx hb dL_refuses_299 rfl (lv_at hl 1 rfl) ?_
    refine lv_if_eq (tgt := 328) hx hb dL_refuses_300 (by decide) (fun c_93 => ?_) (fun c_93 => ?_)
    · replace hf := ite_t c_93 hf
      refine lv_iconst (v := (1 : Int32)) hx hb dL_refuses_328 (by decide) ?_
      refine lv_goto (tgt := 333) hx hb dL_refuses_329 (by decide) ?_
      exact bL_refuses_333 X hl0 z0_20 v1 (1 : Int32) _ _ _ _ _ (by omega) (by omega) hW0 hS (lv_sub hl [0, 1] rfl) hf
    · replace hf := ite_f c_93 hf
      refine lv_iload_n hx hb dL_refuses_303 rfl (lv_at hl 2 rfl) ?_
      refine lv_if_ne (tgt := 328) hx hb dL_refuses_304 (by decide) (fun c_94 => ?_) (fun c_94 => ?_)
      · replace hf := ite_f c_94 hf
        refine lv_iconst (v := (1 : Int32)) hx hb dL_refuses_328 (by decide) ?_
        refine lv_goto (tgt := 333) hx hb dL_refuses_329 (by decide) ?_
        exact bL_refuses_333 X hl0 z0_20 v1 (1 : Int32) _ _ _ _ _ (by omega) (by omega) hW0 hS (lv_sub hl [0, 1] rfl) hf
      · replace hf := ite_t c_94 hf
        refine lv_aload_n hx hb dL_refuses_307 rfl (lv_at hl 0 rfl) ?_
        refine lv_iconst (v := (0 : Int32)) hx hb dL_refuses_308 (by decide) ?_
        obtain ⟨r_95, z0_21, hq_96, hf⟩ := bd2_some hf
        refine kA (As := [.ref (ad0 360), .int (0 : Int32)]) (rest := []) X (fun q h => h) hW0 hS (tI_tryPart l D cy ad0 ba0 hl0 hq_96) (vx_cwSW (hh := [(0, 5, 6, 30), (0, 5, 10, 16)]) 2 X.2.2.2.2.2.1 gL_refuses_L_tryPart rfl rfl rfl kdL_tryPart.2 ⟨(Nat.le_of_ble_eq_true rfl), (Nat.le_of_ble_eq_true rfl)⟩) rfl rfl hl.1 (Nat.le_of_ble_eq_true rfl) ⟨by show _ ≤ 44; omega, by show _ ≤ 264; omega⟩ dL_refuses_309 (fun H locs hW0 hS hz hk => ?_)
        clear hz hk
        refine lv_ldc (v := (-99003 : Int32)) hx hb hown (X.2.2.2.2.2.1 _ wL_refuses_18) dL_refuses_312 ?_
        refine lv_icmp_ne (tgt := 332) hx hb dL_refuses_314 (by decide) (fun c_97 => ?_) (fun c_97 => ?_)
        · replace hf := ite_f c_97 hf
          exact bL_refuses_332 X hl0 z0_21 v1 _ _ _ _ _ (by omega) (by omega) hW0 hS (lv_sub hl [0, 1] rfl) hf
        · replace hf := ite_t c_97 hf
          refine lv_aload_n hx hb dL_refuses_317 rfl (lv_at hl 0 rfl) ?_
          refine lv_iconst (v := (0 : Int32)) hx hb dL_refuses_318 (by decide) ?_
          refine lv_iconst (v := (0 : Int32)) hx hb dL_refuses_319 (by decide) ?_
          refine kA (As := [.ref (ad0 360), .int (0 : Int32), .int (0 : Int32)]) (rest := []) X (fun q h => h) hW0 hS (tI_tryPartsAfter l D cy ad0 ba0 hl0 z0_21 (0 : Int32) (0 : Int32)) (vx_cwSW (hh := [(0, 6, 7, 30), (0, 6, 11, 13), (0, 6, 15, 16)]) 3 X.2.2.2.2.2.1 gL_refuses_L_tryPartsAfter rfl rfl rfl kdL_tryPartsAfter.2 ⟨(Nat.le_of_ble_eq_true rfl), (Nat.le_of_ble_eq_true rfl)⟩) rfl rfl hl.1 (Nat.le_of_ble_eq_true rfl) ⟨by show _ ≤ 44; omega, by show _ ≤ 264; omega⟩ dL_refuses_320 (fun H locs hW0 hS hz hk => ?_)
          clear hz hk
          refine lv_ldc (v := (-99003 : Int32)) hx hb hown (X.2.2.2.2.2.1 _ wL_refuses_18) dL_refuses_323 ?_
          refine lv_icmp_ne (tgt := 332) hx hb dL_refuses_325 (by decide) (fun c_98 => ?_) (fun c_98 => ?_)
          · replace hf := ite_f c_98 hf
            exact bL_refuses_332 X hl0 z0_21 v1 _ _ _ _ _ (by omega) (by omega) hW0 hS (lv_sub hl [0, 1] rfl) hf
          · replace hf := ite_t c_98 hf
            refine lv_iconst (v := (1 : Int32)) hx hb dL_refuses_328 (by decide) ?_
            refine lv_goto (tgt := 333) hx hb dL_refuses_329 (by decide) ?_
            exact bL_refuses_333 X hl0 z0_21 v1 (1 : Int32) _ _ _ _ _ (by omega) (by omega) hW0 hS (lv_sub hl [0, 1] rfl) hf
set_option maxRecDepth 100000 in
set_option maxHeartbeats 4000000 in
theorem bL_refuses_258 {p : Program} {l : Launch} {e : Env} {s : State} {m : MethodId} {args : Array Value} {below : List Frame} {meth : Method} {c : Code} {D : va_G} {cy : Nat → ClassId} {ad0 : Nat → Nat} {ba0 : Nat → Prop} {res : (Int32 × aS)} (X : teC wsL_refuses RL cL_refuses 4 (some .boolean) D cy ba0 p s m args meth c) (hl0 : l.stackTraces = false) : ∀ (z0 : aS) (v1 : Int32) (v2 : Int32) (H : Heap) (locs : List Loc) (ls : Array Slot) (ce sl : Nat), ce + (25) ≤ 44 → sl + (150) ≤ 264 → aR D cy ad0 ba0 z0 H → va_S ba0 s.heap H locs → lv_has ls 4 [(0, .ref (ad0 360)), (1, .int v1), (2, .int v2)] → hL_refuses_258 z0 v1 v2 = some res → W p l e (headSpec wsL_refuses rmL_refuses).room s m args below meth c H locs ce sl (MQ below (va_Qi (fun a (_ : Unit) => a = res.1) (fun _ t => (aR D cy ad0 ba0 res.2) t.heap) ba0) args s 44 264 ba0) (F0 m 258 ls []) := by
  have hx := X.1
  have hb := X.2.1
  have hown := X.2.2.2.2.1
  intro z0 v1 v2 H locs ls ce sl hb1_ hb2_ hW0 hS hl hf
  unfold hL_refuses_258 at hf
  refine lv_aload_n hx hb dL_refuses_258 rfl (lv_at hl 0 rfl) ?_
  refine lv_iconst (v := (0 : Int32)) hx hb dL_refuses_259 (by decide) ?_
  refine lv_iload_n hx hb dL_refuses_260 rfl (lv_at hl 1 rfl) ?_
  obtain ⟨r_82, z0_18, hq_83, hf⟩ := bd2_some hf
  refine kA (As := [.ref (ad0 360), .int (0 : Int32), .int v1]) (rest := []) X (fun q h => h) hW0 hS (tI_tryPair l D cy ad0 ba0 hl0 hq_83) (vx_cwSW (hh := [(0, 6, 7, 30), (0, 6, 11, 13), (0, 6, 15, 16)]) 3 X.2.2.2.2.2.1 gL_refuses_L_tryPair rfl rfl rfl kdL_tryPair.2 ⟨(Nat.le_of_ble_eq_true rfl), (Nat.le_of_ble_eq_true rfl)⟩) rfl rfl hl.1 (Nat.le_of_ble_eq_true rfl) ⟨by show _ ≤ 44; omega, by show _ ≤ 264; omega⟩ dL_refuses_261 (fun H locs hW0 hS hz hk => ?_)
  clear hz hk
  refine lv_ldc (v := (-99001 : Int32)) hx hb hown (X.2.2.2.2.2.1 _ wL_refuses_32) dL_refuses_264 ?_
  refine lv_icmp_ne (tgt := 332) hx hb dL_refuses_266 (by decide) (fun c_84 => ?_) (fun c_84 => ?_)
  · replace hf := ite_f c_84 hf
    exact bL_refuses_332 X hl0 z0_18 v1 _ _ _ _ _ (by omega) (by omega) hW0 hS (lv_sub hl [0, 1] rfl) hf
  · replace hf := ite_t c_84 hf
    refine lv_iload_n hx hb dL_refuses_269 rfl (lv_at hl 1 rfl) ?_
    refine lv_iconst (v := (2 : Int32)) hx hb dL_refuses_270 (by decide) ?_
    refine lv_icmp_lt (tgt := 289) hx hb dL_refuses_271 (by decide) (fun c_85 => ?_) (fun c_85 => ?_)
    · replace hf := ite_t c_85 hf
      exact bL_refuses_289 X hl0 z0_18 v1 v2 _ _ _ _ _ (by omega) (by omega) hW0 hS (lv_sub hl [0, 1, 2] rfl) hf
    · replace hf := ite_f c_85 hf
      refine lv_iload_n hx hb dL_refuses_274 rfl (lv_at hl 2 rfl) ?_
      refine lv_if_eq (tgt := 289) hx hb dL_refuses_275 (by decide) (fun c_86 => ?_) (fun c_86 => ?_)
      · replace hf := ite_t c_86 hf
        exact bL_refuses_289 X hl0 z0_18 v1 v2 _ _ _ _ _ (by omega) (by omega) hW0 hS (lv_sub hl [0, 1, 2] rfl) hf
      · replace hf := ite_f c_86 hf
        refine lv_aload_n hx hb dL_refuses_278 rfl (lv_at hl 0 rfl) ?_
        refine lv_iconst (v := (0 : Int32)) hx hb dL_refuses_279 (by decide) ?_
        refine lv_iconst (v := (1 : Int32)) hx hb dL_refuses_280 (by decide) ?_
        obtain ⟨r_87, z0_19, hq_88, hf⟩ := bd2_some hf
        refine kA (As := [.ref (ad0 360), .int (0 : Int32), .int (1 : Int32)]) (rest := []) X (fun q h => h) hW0 hS (tI_tryPair l D cy ad0 ba0 hl0 hq_88) (vx_cwSW (hh := [(0, 6, 7, 30), (0, 6, 11, 13), (0, 6, 15, 16)]) 3 X.2.2.2.2.2.1 gL_refuses_L_tryPair rfl rfl rfl kdL_tryPair.2 ⟨(Nat.le_of_ble_eq_true rfl), (Nat.le_of_ble_eq_true rfl)⟩) rfl rfl hl.1 (Nat.le_of_ble_eq_true rfl) ⟨by show _ ≤ 44; omega, by show _ ≤ 264; omega⟩ dL_refuses_281 (fun H locs hW0 hS hz hk => ?_)
        clear hz hk
        refine lv_ldc (v := (-99003 : Int32)) hx hb hown (X.2.2.2.2.2.1 _ wL_refuses_18) dL_refuses_284 ?_
        refine lv_icmp_ne (tgt := 332) hx hb dL_refuses_286 (by decide) (fun c_89 => ?_) (fun c_89 => ?_)
        · replace hf := ite_f c_89 hf
          exact bL_refuses_332 X hl0 z0_19 v1 _ _ _ _ _ (by omega) (by omega) hW0 hS (lv_sub hl [0, 1] rfl) hf
        · replace hf := ite_t c_89 hf
          exact bL_refuses_289 X hl0 z0_19 v1 v2 _ _ _ _ _ (by omega) (by omega) hW0 hS (lv_sub hl [0, 1, 2] rfl) hf
set_option maxRecDepth 100000 in
set_option maxHeartbeats 4000000 in
theorem bL_refuses_206 {p : Program} {l : Launch} {e : Env} {s : State} {m : MethodId} {args : Array Value} {below : List Frame} {meth : Method} {c : Code} {D : va_G} {cy : Nat → ClassId} {ad0 : Nat → Nat} {ba0 : Nat → Prop} {res : (Int32 × aS)} (X : teC wsL_refuses RL cL_refuses 4 (some .boolean) D cy ba0 p s m args meth c) (hl0 : l.stackTraces = false) : ∀ (z0 : aS) (v1 : Int32) (v2 : Int32) (H : Heap) (locs : List Loc) (ls : Array Slot) (ce sl : Nat), ce + (29) ≤ 44 → sl + (174) ≤ 264 → aR D cy ad0 ba0 z0 H → va_S ba0 s.heap H locs → lv_has ls 4 [(0, .ref (ad0 360)), (1, .int v1), (2, .int v2)] → hL_refuses_206 z0 v1 v2 = some res → W p l e (headSpec wsL_refuses rmL_refuses).room s m args below meth c H locs ce sl (MQ below (va_Qi (fun a (_ : Unit) => a = res.1) (fun _ t => (aR D cy ad0 ba0 res.2) t.heap) ba0) args s 44 264 ba0) (F0 m 206 ls []) := by
  have hx := X.1
  have hb := X.2.1
  have hown := X.2.2.2.2.1
  intro z0 v1 v2 H locs ls ce sl hb1_ hb2_ hW0 hS hl hf
  unfold hL_refuses_206 at hf
  refine lv_aload_n hx hb dL_refuses_206 rfl (lv_at hl 0 rfl) ?_
  refine lv_iload_n hx hb dL_refuses_207 rfl (lv_at hl 1 rfl) ?_
  refine lv_iconst (v := (4 : Int32)) hx hb dL_refuses_208 (by decide) ?_
  refine lv_iconst (v := (0 : Int32)) hx hb dL_refuses_209 (by decide) ?_
  obtain ⟨r_69, z0_14, hq_70, hf⟩ := bd2_some hf
  refine kA (As := [.ref (ad0 360), .int v1, .int (4 : Int32), .int (0 : Int32)]) (rest := []) X (fun q h => h) hW0 hS (tI_tryTest l D cy ad0 ba0 hl0 hq_70) (vx_cwSW (hh := [(0, 7, 8, 30), (0, 7, 13, 13)]) 4 X.2.2.2.2.2.1 gL_refuses_L_tryTest rfl rfl rfl kdL_tryTest.2 ⟨(Nat.le_of_ble_eq_true rfl), (Nat.le_of_ble_eq_true rfl)⟩) rfl rfl hl.1 (Nat.le_of_ble_eq_true rfl) ⟨by show _ ≤ 44; omega, by show _ ≤ 264; omega⟩ dL_refuses_210 (fun H locs hW0 hS hz hk => ?_)
  clear hz hk
  refine lv_ldc (v := (-99001 : Int32)) hx hb hown (X.2.2.2.2.2.1 _ wL_refuses_32) dL_refuses_213 ?_
  refine lv_icmp_ne (tgt := 332) hx hb dL_refuses_215 (by decide) (fun c_71 => ?_) (fun c_71 => ?_)
  · replace hf := ite_f c_71 hf
    exact bL_refuses_332 X hl0 z0_14 v1 _ _ _ _ _ (by omega) (by omega) hW0 hS (lv_sub hl [0, 1] rfl) hf
  · replace hf := ite_t c_71 hf
    refine lv_iload_n hx hb dL_refuses_218 rfl (lv_at hl 1 rfl) ?_
    refine lv_if_eq (tgt := 258) hx hb dL_refuses_219 (by decide) (fun c_72 => ?_) (fun c_72 => ?_)
    · replace hf := ite_t c_72 hf
      exact bL_refuses_258 X hl0 z0_14 v1 v2 _ _ _ _ _ (by omega) (by omega) hW0 hS (lv_sub hl [0, 1, 2] rfl) hf
    · replace hf := ite_f c_72 hf
      refine lv_aload_n hx hb dL_refuses_222 rfl (lv_at hl 0 rfl) ?_
      refine lv_iconst (v := (0 : Int32)) hx hb dL_refuses_223 (by decide) ?_
      refine lv_iconst (v := (4 : Int32)) hx hb dL_refuses_224 (by decide) ?_
      refine lv_iconst (v := (0 : Int32)) hx hb dL_refuses_225 (by decide) ?_
      obtain ⟨r_73, z0_15, hq_74, hf⟩ := bd2_some hf
      refine kA (As := [.ref (ad0 360), .int (0 : Int32), .int (4 : Int32), .int (0 : Int32)]) (rest := []) X (fun q h => h) hW0 hS (tI_tryTest l D cy ad0 ba0 hl0 hq_74) (vx_cwSW (hh := [(0, 7, 8, 30), (0, 7, 13, 13)]) 4 X.2.2.2.2.2.1 gL_refuses_L_tryTest rfl rfl rfl kdL_tryTest.2 ⟨(Nat.le_of_ble_eq_true rfl), (Nat.le_of_ble_eq_true rfl)⟩) rfl rfl hl.1 (Nat.le_of_ble_eq_true rfl) ⟨by show _ ≤ 44; omega, by show _ ≤ 264; omega⟩ dL_refuses_226 (fun H locs hW0 hS hz hk => ?_)
      clear hz hk
      refine lv_ldc (v := (-99002 : Int32)) hx hb hown (X.2.2.2.2.2.1 _ wL_refuses_15) dL_refuses_229 ?_
      refine lv_icmp_ne (tgt := 332) hx hb dL_refuses_231 (by decide) (fun c_75 => ?_) (fun c_75 => ?_)
      · replace hf := ite_f c_75 hf
        exact bL_refuses_332 X hl0 z0_15 v1 _ _ _ _ _ (by omega) (by omega) hW0 hS (lv_sub hl [0, 1] rfl) hf
      · replace hf := ite_t c_75 hf
        refine lv_aload_n hx hb dL_refuses_234 rfl (lv_at hl 0 rfl) ?_
        refine lv_iconst (v := (0 : Int32)) hx hb dL_refuses_235 (by decide) ?_
        refine lv_iconst (v := (0 : Int32)) hx hb dL_refuses_236 (by decide) ?_
        refine lv_bipush (v := (100 : Int32)) hx hb dL_refuses_237 (by decide) ?_
        obtain ⟨r_76, z0_16, hq_77, hf⟩ := bd2_some hf
        refine kA (As := [.ref (ad0 360), .int (0 : Int32), .int (0 : Int32), .int (100 : Int32)]) (rest := []) X (fun q h => h) hW0 hS (tI_tryTest l D cy ad0 ba0 hl0 hq_77) (vx_cwSW (hh := [(0, 7, 8, 30), (0, 7, 13, 13)]) 4 X.2.2.2.2.2.1 gL_refuses_L_tryTest rfl rfl rfl kdL_tryTest.2 ⟨(Nat.le_of_ble_eq_true rfl), (Nat.le_of_ble_eq_true rfl)⟩) rfl rfl hl.1 (Nat.le_of_ble_eq_true rfl) ⟨by show _ ≤ 44; omega, by show _ ≤ 264; omega⟩ dL_refuses_239 (fun H locs hW0 hS hz hk => ?_)
        clear hz hk
        refine lv_ldc (v := (-99002 : Int32)) hx hb hown (X.2.2.2.2.2.1 _ wL_refuses_15) dL_refuses_242 ?_
        refine lv_icmp_ne (tgt := 332) hx hb dL_refuses_244 (by decide) (fun c_78 => ?_) (fun c_78 => ?_)
        · replace hf := ite_f c_78 hf
          exact bL_refuses_332 X hl0 z0_16 v1 _ _ _ _ _ (by omega) (by omega) hW0 hS (lv_sub hl [0, 1] rfl) hf
        · replace hf := ite_t c_78 hf
          refine lv_aload_n hx hb dL_refuses_247 rfl (lv_at hl 0 rfl) ?_
          refine lv_iconst (v := (0 : Int32)) hx hb dL_refuses_248 (by decide) ?_
          refine lv_iconst (v := (0 : Int32)) hx hb dL_refuses_249 (by decide) ?_
          obtain ⟨r_79, z0_17, hq_80, hf⟩ := bd2_some hf
          refine kA (As := [.ref (ad0 360), .int (0 : Int32), .int (0 : Int32)]) (rest := []) X (fun q h => h) hW0 hS (tI_tryPair l D cy ad0 ba0 hl0 hq_80) (vx_cwSW (hh := [(0, 6, 7, 30), (0, 6, 11, 13), (0, 6, 15, 16)]) 3 X.2.2.2.2.2.1 gL_refuses_L_tryPair rfl rfl rfl kdL_tryPair.2 ⟨(Nat.le_of_ble_eq_true rfl), (Nat.le_of_ble_eq_true rfl)⟩) rfl rfl hl.1 (Nat.le_of_ble_eq_true rfl) ⟨by show _ ≤ 44; omega, by show _ ≤ 264; omega⟩ dL_refuses_250 (fun H locs hW0 hS hz hk => ?_)
          clear hz hk
          refine lv_ldc (v := (-99002 : Int32)) hx hb hown (X.2.2.2.2.2.1 _ wL_refuses_15) dL_refuses_253 ?_
          refine lv_icmp_ne (tgt := 332) hx hb dL_refuses_255 (by decide) (fun c_81 => ?_) (fun c_81 => ?_)
          · replace hf := ite_f c_81 hf
            exact bL_refuses_332 X hl0 z0_17 v1 _ _ _ _ _ (by omega) (by omega) hW0 hS (lv_sub hl [0, 1] rfl) hf
          · replace hf := ite_t c_81 hf
            exact bL_refuses_258 X hl0 z0_17 v1 v2 _ _ _ _ _ (by omega) (by omega) hW0 hS (lv_sub hl [0, 1, 2] rfl) hf
set_option maxRecDepth 100000 in
set_option maxHeartbeats 4000000 in
theorem bL_refuses_170 {p : Program} {l : Launch} {e : Env} {s : State} {m : MethodId} {args : Array Value} {below : List Frame} {meth : Method} {c : Code} {D : va_G} {cy : Nat → ClassId} {ad0 : Nat → Nat} {ba0 : Nat → Prop} {res : (Int32 × aS)} (X : teC wsL_refuses RL cL_refuses 4 (some .boolean) D cy ba0 p s m args meth c) (hl0 : l.stackTraces = false) : ∀ (z0 : aS) (v1 : Int32) (v2 : Int32) (H : Heap) (locs : List Loc) (ls : Array Slot) (ce sl : Nat), ce + (32) ≤ 44 → sl + (192) ≤ 264 → aR D cy ad0 ba0 z0 H → va_S ba0 s.heap H locs → lv_has ls 4 [(0, .ref (ad0 360)), (1, .int v1), (2, .int v2)] → hL_refuses_170 z0 v1 v2 = some res → W p l e (headSpec wsL_refuses rmL_refuses).room s m args below meth c H locs ce sl (MQ below (va_Qi (fun a (_ : Unit) => a = res.1) (fun _ t => (aR D cy ad0 ba0 res.2) t.heap) ba0) args s 44 264 ba0) (F0 m 170 ls []) := by
  have hx := X.1
  have hb := X.2.1
  have hown := X.2.2.2.2.1
  intro z0 v1 v2 H locs ls ce sl hb1_ hb2_ hW0 hS hl hf
  unfold hL_refuses_170 at hf
  refine lv_aload_n hx hb dL_refuses_170 rfl (lv_at hl 0 rfl) ?_
  refine lv_iload_n hx hb dL_refuses_171 rfl (lv_at hl 1 rfl) ?_
  obtain ⟨r_59, z0_11, hq_60, hf⟩ := bd2_some hf
  refine kA (As := [.ref (ad0 360), .int v1]) (rest := []) X (fun q h => h) hW0 hS (tI_tryLeave l D cy ad0 ba0 hl0 hq_60) (vx_cwSW (hh := [(0, 5, 6, 30)]) 2 X.2.2.2.2.2.1 gL_refuses_L_tryLeave rfl rfl rfl kdL_tryLeave.2 ⟨(Nat.le_of_ble_eq_true rfl), (Nat.le_of_ble_eq_true rfl)⟩) rfl rfl hl.1 (Nat.le_of_ble_eq_true rfl) ⟨by show _ ≤ 44; omega, by show _ ≤ 264; omega⟩ dL_refuses_172 (fun H locs hW0 hS hz hk => ?_)
  clear hz hk
  refine lv_ldc (v := (-99001 : Int32)) hx hb hown (X.2.2.2.2.2.1 _ wL_refuses_32) dL_refuses_175 ?_
  refine lv_icmp_ne (tgt := 332) hx hb dL_refuses_177 (by decide) (fun c_61 => ?_) (fun c_61 => ?_)
  · replace hf := ite_f c_61 hf
    exact bL_refuses_332 X hl0 z0_11 v1 _ _ _ _ _ (by omega) (by omega) hW0 hS (lv_sub hl [0, 1] rfl) hf
  · replace hf := ite_t c_61 hf
    refine lv_aload_n hx hb dL_refuses_180 rfl (lv_at hl 0 rfl) ?_
    refine lv_iload_n hx hb dL_refuses_181 rfl (lv_at hl 1 rfl) ?_
    refine lv_iconst (v := (4 : Int32)) hx hb dL_refuses_182 (by decide) ?_
    obtain ⟨r_62, z0_12, hq_63, hf⟩ := bd2_some hf
    refine kA (As := [.ref (ad0 360), .int v1, .int (4 : Int32)]) (rest := []) X (fun q h => h) hW0 hS (tI_tryWant l D cy ad0 ba0 hl0 hq_63) (vx_cwSW (hh := [(0, 6, 7, 30), (0, 6, 11, 13)]) 3 X.2.2.2.2.2.1 gL_refuses_L_tryWant rfl rfl rfl kdL_tryWant.2 ⟨(Nat.le_of_ble_eq_true rfl), (Nat.le_of_ble_eq_true rfl)⟩) rfl rfl hl.1 (Nat.le_of_ble_eq_true rfl) ⟨by show _ ≤ 44; omega, by show _ ≤ 264; omega⟩ dL_refuses_183 (fun H locs hW0 hS hz hk => ?_)
    clear hz hk
    refine lv_ldc (v := (-99001 : Int32)) hx hb hown (X.2.2.2.2.2.1 _ wL_refuses_32) dL_refuses_186 ?_
    refine lv_icmp_ne (tgt := 332) hx hb dL_refuses_188 (by decide) (fun c_64 => ?_) (fun c_64 => ?_)
    · replace hf := ite_f c_64 hf
      exact bL_refuses_332 X hl0 z0_12 v1 _ _ _ _ _ (by omega) (by omega) hW0 hS (lv_sub hl [0, 1] rfl) hf
    · replace hf := ite_t c_64 hf
      refine lv_iload_n hx hb dL_refuses_191 rfl (lv_at hl 1 rfl) ?_
      refine lv_if_eq (tgt := 206) hx hb dL_refuses_192 (by decide) (fun c_65 => ?_) (fun c_65 => ?_)
      · replace hf := ite_t c_65 hf
        exact bL_refuses_206 X hl0 z0_12 v1 v2 _ _ _ _ _ (by omega) (by omega) hW0 hS (lv_sub hl [0, 1, 2] rfl) hf
      · replace hf := ite_f c_65 hf
        refine lv_aload_n hx hb dL_refuses_195 rfl (lv_at hl 0 rfl) ?_
        refine lv_iconst (v := (0 : Int32)) hx hb dL_refuses_196 (by decide) ?_
        refine lv_iconst (v := (4 : Int32)) hx hb dL_refuses_197 (by decide) ?_
        obtain ⟨r_66, z0_13, hq_67, hf⟩ := bd2_some hf
        refine kA (As := [.ref (ad0 360), .int (0 : Int32), .int (4 : Int32)]) (rest := []) X (fun q h => h) hW0 hS (tI_tryWant l D cy ad0 ba0 hl0 hq_67) (vx_cwSW (hh := [(0, 6, 7, 30), (0, 6, 11, 13)]) 3 X.2.2.2.2.2.1 gL_refuses_L_tryWant rfl rfl rfl kdL_tryWant.2 ⟨(Nat.le_of_ble_eq_true rfl), (Nat.le_of_ble_eq_true rfl)⟩) rfl rfl hl.1 (Nat.le_of_ble_eq_true rfl) ⟨by show _ ≤ 44; omega, by show _ ≤ 264; omega⟩ dL_refuses_198 (fun H locs hW0 hS hz hk => ?_)
        clear hz hk
        refine lv_ldc (v := (-99002 : Int32)) hx hb hown (X.2.2.2.2.2.1 _ wL_refuses_15) dL_refuses_201 ?_
        refine lv_icmp_ne (tgt := 332) hx hb dL_refuses_203 (by decide) (fun c_68 => ?_) (fun c_68 => ?_)
        · replace hf := ite_f c_68 hf
          exact bL_refuses_332 X hl0 z0_13 v1 _ _ _ _ _ (by omega) (by omega) hW0 hS (lv_sub hl [0, 1] rfl) hf
        · replace hf := ite_t c_68 hf
          exact bL_refuses_206 X hl0 z0_13 v1 v2 _ _ _ _ _ (by omega) (by omega) hW0 hS (lv_sub hl [0, 1, 2] rfl) hf
set_option maxRecDepth 100000 in
set_option maxHeartbeats 4000000 in
theorem bL_refuses_113 {p : Program} {l : Launch} {e : Env} {s : State} {m : MethodId} {args : Array Value} {below : List Frame} {meth : Method} {c : Code} {D : va_G} {cy : Nat → ClassId} {ad0 : Nat → Nat} {ba0 : Nat → Prop} {res : (Int32 × aS)} (X : teC wsL_refuses RL cL_refuses 4 (some .boolean) D cy ba0 p s m args meth c) (hl0 : l.stackTraces = false) : ∀ (z0 : aS) (v1 : Int32) (v2 : Int32) (H : Heap) (locs : List Loc) (ls : Array Slot) (ce sl : Nat), ce + (36) ≤ 44 → sl + (216) ≤ 264 → aR D cy ad0 ba0 z0 H → va_S ba0 s.heap H locs → lv_has ls 4 [(0, .ref (ad0 360)), (1, .int v1), (2, .int v2)] → hL_refuses_113 z0 v1 v2 = some res → W p l e (headSpec wsL_refuses rmL_refuses).room s m args below meth c H locs ce sl (MQ below (va_Qi (fun a (_ : Unit) => a = res.1) (fun _ t => (aR D cy ad0 ba0 res.2) t.heap) ba0) args s 44 264 ba0) (F0 m 113 ls []) := by
  have hx := X.1
  have hb := X.2.1
  have hown := X.2.2.2.2.1
  intro z0 v1 v2 H locs ls ce sl hb1_ hb2_ hW0 hS hl hf
  unfold hL_refuses_113 at hf
  refine lv_aload_n hx hb dL_refuses_113 rfl (lv_at hl 0 rfl) ?_
  refine lv_iconst (v := (4 : Int32)) hx hb dL_refuses_114 (by decide) ?_
  refine lv_iconst (v := (0 : Int32)) hx hb dL_refuses_115 (by decide) ?_
  refine lv_iconst (v := (0 : Int32)) hx hb dL_refuses_116 (by decide) ?_
  obtain ⟨r_46, z0_7, hq_47, hf⟩ := bd2_some hf
  refine kA (As := [.ref (ad0 360), .int (4 : Int32), .int (0 : Int32), .int (0 : Int32)]) (rest := []) X (fun q h => h) hW0 hS (tI_tryJoin l D cy ad0 ba0 hl0 hq_47) (vx_cwSW (hh := [(0, 7, 8, 13), (0, 7, 13, 16)]) 4 X.2.2.2.2.2.1 gL_refuses_L_tryJoin rfl rfl rfl kdL_tryJoin.2 ⟨(Nat.le_of_ble_eq_true rfl), (Nat.le_of_ble_eq_true rfl)⟩) rfl rfl hl.1 (Nat.le_of_ble_eq_true rfl) ⟨by show _ ≤ 44; omega, by show _ ≤ 264; omega⟩ dL_refuses_117 (fun H locs hW0 hS hz hk => ?_)
  clear hz hk
  refine lv_ldc (v := (-99002 : Int32)) hx hb hown (X.2.2.2.2.2.1 _ wL_refuses_15) dL_refuses_120 ?_
  refine lv_icmp_ne (tgt := 332) hx hb dL_refuses_122 (by decide) (fun c_48 => ?_) (fun c_48 => ?_)
  · replace hf := ite_f c_48 hf
    exact bL_refuses_332 X hl0 z0_7 v1 _ _ _ _ _ (by omega) (by omega) hW0 hS (lv_sub hl [0, 1] rfl) hf
  · replace hf := ite_t c_48 hf
    refine lv_aload_n hx hb dL_refuses_125 rfl (lv_at hl 0 rfl) ?_
    refine lv_iconst (v := (0 : Int32)) hx hb dL_refuses_126 (by decide) ?_
    refine lv_sipush (v := (10000 : Int32)) hx hb dL_refuses_127 (by decide) ?_
    refine lv_iconst (v := (0 : Int32)) hx hb dL_refuses_130 (by decide) ?_
    obtain ⟨r_49, z0_8, hq_50, hf⟩ := bd2_some hf
    refine kA (As := [.ref (ad0 360), .int (0 : Int32), .int (10000 : Int32), .int (0 : Int32)]) (rest := []) X (fun q h => h) hW0 hS (tI_tryJoin l D cy ad0 ba0 hl0 hq_50) (vx_cwSW (hh := [(0, 7, 8, 13), (0, 7, 13, 16)]) 4 X.2.2.2.2.2.1 gL_refuses_L_tryJoin rfl rfl rfl kdL_tryJoin.2 ⟨(Nat.le_of_ble_eq_true rfl), (Nat.le_of_ble_eq_true rfl)⟩) rfl rfl hl.1 (Nat.le_of_ble_eq_true rfl) ⟨by show _ ≤ 44; omega, by show _ ≤ 264; omega⟩ dL_refuses_131 (fun H locs hW0 hS hz hk => ?_)
    clear hz hk
    refine lv_ldc (v := (-99002 : Int32)) hx hb hown (X.2.2.2.2.2.1 _ wL_refuses_15) dL_refuses_134 ?_
    refine lv_icmp_ne (tgt := 332) hx hb dL_refuses_136 (by decide) (fun c_51 => ?_) (fun c_51 => ?_)
    · replace hf := ite_f c_51 hf
      exact bL_refuses_332 X hl0 z0_8 v1 _ _ _ _ _ (by omega) (by omega) hW0 hS (lv_sub hl [0, 1] rfl) hf
    · replace hf := ite_t c_51 hf
      refine lv_aload_n hx hb dL_refuses_139 rfl (lv_at hl 0 rfl) ?_
      refine lv_iconst (v := (0 : Int32)) hx hb dL_refuses_140 (by decide) ?_
      refine lv_iconst (v := (0 : Int32)) hx hb dL_refuses_141 (by decide) ?_
      refine lv_bipush (v := (100 : Int32)) hx hb dL_refuses_142 (by decide) ?_
      obtain ⟨r_52, z0_9, hq_53, hf⟩ := bd2_some hf
      refine kA (As := [.ref (ad0 360), .int (0 : Int32), .int (0 : Int32), .int (100 : Int32)]) (rest := []) X (fun q h => h) hW0 hS (tI_tryJoin l D cy ad0 ba0 hl0 hq_53) (vx_cwSW (hh := [(0, 7, 8, 13), (0, 7, 13, 16)]) 4 X.2.2.2.2.2.1 gL_refuses_L_tryJoin rfl rfl rfl kdL_tryJoin.2 ⟨(Nat.le_of_ble_eq_true rfl), (Nat.le_of_ble_eq_true rfl)⟩) rfl rfl hl.1 (Nat.le_of_ble_eq_true rfl) ⟨by show _ ≤ 44; omega, by show _ ≤ 264; omega⟩ dL_refuses_144 (fun H locs hW0 hS hz hk => ?_)
      clear hz hk
      refine lv_ldc (v := (-99002 : Int32)) hx hb hown (X.2.2.2.2.2.1 _ wL_refuses_15) dL_refuses_147 ?_
      refine lv_icmp_ne (tgt := 332) hx hb dL_refuses_149 (by decide) (fun c_54 => ?_) (fun c_54 => ?_)
      · replace hf := ite_f c_54 hf
        exact bL_refuses_332 X hl0 z0_9 v1 _ _ _ _ _ (by omega) (by omega) hW0 hS (lv_sub hl [0, 1] rfl) hf
      · replace hf := ite_t c_54 hf
        refine lv_iload_n hx hb dL_refuses_152 rfl (lv_at hl 1 rfl) ?_
        refine lv_bipush (v := (9 : Int32)) hx hb dL_refuses_153 (by decide) ?_
        refine lv_icmp_lt (tgt := 170) hx hb dL_refuses_155 (by decide) (fun c_55 => ?_) (fun c_55 => ?_)
        · replace hf := ite_t c_55 hf
          exact bL_refuses_170 X hl0 z0_9 v1 v2 _ _ _ _ _ (by omega) (by omega) hW0 hS (lv_sub hl [0, 1, 2] rfl) hf
        · replace hf := ite_f c_55 hf
          refine lv_aload_n hx hb dL_refuses_158 rfl (lv_at hl 0 rfl) ?_
          refine lv_iconst (v := (0 : Int32)) hx hb dL_refuses_159 (by decide) ?_
          refine lv_iconst (v := (0 : Int32)) hx hb dL_refuses_160 (by decide) ?_
          refine lv_iconst (v := (0 : Int32)) hx hb dL_refuses_161 (by decide) ?_
          obtain ⟨r_56, z0_10, hq_57, hf⟩ := bd2_some hf
          refine kA (As := [.ref (ad0 360), .int (0 : Int32), .int (0 : Int32), .int (0 : Int32)]) (rest := []) X (fun q h => h) hW0 hS (tI_tryJoin l D cy ad0 ba0 hl0 hq_57) (vx_cwSW (hh := [(0, 7, 8, 13), (0, 7, 13, 16)]) 4 X.2.2.2.2.2.1 gL_refuses_L_tryJoin rfl rfl rfl kdL_tryJoin.2 ⟨(Nat.le_of_ble_eq_true rfl), (Nat.le_of_ble_eq_true rfl)⟩) rfl rfl hl.1 (Nat.le_of_ble_eq_true rfl) ⟨by show _ ≤ 44; omega, by show _ ≤ 264; omega⟩ dL_refuses_162 (fun H locs hW0 hS hz hk => ?_)
          clear hz hk
          refine lv_ldc (v := (-99003 : Int32)) hx hb hown (X.2.2.2.2.2.1 _ wL_refuses_18) dL_refuses_165 ?_
          refine lv_icmp_ne (tgt := 332) hx hb dL_refuses_167 (by decide) (fun c_58 => ?_) (fun c_58 => ?_)
          · replace hf := ite_f c_58 hf
            exact bL_refuses_332 X hl0 z0_10 v1 _ _ _ _ _ (by omega) (by omega) hW0 hS (lv_sub hl [0, 1] rfl) hf
          · replace hf := ite_t c_58 hf
            exact bL_refuses_170 X hl0 z0_10 v1 v2 _ _ _ _ _ (by omega) (by omega) hW0 hS (lv_sub hl [0, 1, 2] rfl) hf
set_option maxRecDepth 100000 in
set_option maxHeartbeats 4000000 in
theorem bL_refuses_96 {p : Program} {l : Launch} {e : Env} {s : State} {m : MethodId} {args : Array Value} {below : List Frame} {meth : Method} {c : Code} {D : va_G} {cy : Nat → ClassId} {ad0 : Nat → Nat} {ba0 : Nat → Prop} {res : (Int32 × aS)} (X : teC wsL_refuses RL cL_refuses 4 (some .boolean) D cy ba0 p s m args meth c) (hl0 : l.stackTraces = false) : ∀ (z0 : aS) (v1 : Int32) (v2 : Int32) (H : Heap) (locs : List Loc) (ls : Array Slot) (ce sl : Nat), ce + (37) ≤ 44 → sl + (222) ≤ 264 → aR D cy ad0 ba0 z0 H → va_S ba0 s.heap H locs → lv_has ls 4 [(0, .ref (ad0 360)), (1, .int v1), (2, .int v2)] → hL_refuses_96 z0 v1 v2 = some res → W p l e (headSpec wsL_refuses rmL_refuses).room s m args below meth c H locs ce sl (MQ below (va_Qi (fun a (_ : Unit) => a = res.1) (fun _ t => (aR D cy ad0 ba0 res.2) t.heap) ba0) args s 44 264 ba0) (F0 m 96 ls []) := by
  have hx := X.1
  have hb := X.2.1
  have hown := X.2.2.2.2.1
  intro z0 v1 v2 H locs ls ce sl hb1_ hb2_ hW0 hS hl hf
  unfold hL_refuses_96 at hf
  refine lv_iload_n hx hb dL_refuses_96 rfl (lv_at hl 1 rfl) ?_
  refine lv_iconst (v := (2 : Int32)) hx hb dL_refuses_97 (by decide) ?_
  refine lv_icmp_lt (tgt := 113) hx hb dL_refuses_98 (by decide) (fun c_30 => ?_) (fun c_30 => ?_)
  · replace hf := ite_t c_30 hf
    exact bL_refuses_113 X hl0 z0 v1 v2 _ _ _ _ _ (by omega) (by omega) hW0 hS (lv_sub hl [0, 1, 2] rfl) hf
  · replace hf := ite_f c_30 hf
    refine lv_aload_n hx hb dL_refuses_101 rfl (lv_at hl 0 rfl) ?_
    refine lv_iconst (v := (0 : Int32)) hx hb dL_refuses_102 (by decide) ?_
    refine lv_iconst (v := (1 : Int32)) hx hb dL_refuses_103 (by decide) ?_
    refine lv_iconst (v := (4 : Int32)) hx hb dL_refuses_104 (by decide) ?_
    refine kA (As := [.ref (ad0 360), .int (0 : Int32), .int (1 : Int32), .int (4 : Int32)]) (rest := []) X (fun q h => h) hW0 hS (tI_tryBoth l D cy ad0 ba0 hl0 z0 (0 : Int32) (1 : Int32) (4 : Int32)) (vx_cwSW (hh := [(0, 7, 8, 30), (0, 7, 13, 13)]) 4 X.2.2.2.2.2.1 gL_refuses_L_tryBoth rfl rfl rfl kdL_tryBoth.2 ⟨(Nat.le_of_ble_eq_true rfl), (Nat.le_of_ble_eq_true rfl)⟩) rfl rfl hl.1 (Nat.le_of_ble_eq_true rfl) ⟨by show _ ≤ 44; omega, by show _ ≤ 264; omega⟩ dL_refuses_105 (fun H locs hW0 hS hz hk => ?_)
    clear hz hk
    refine lv_ldc (v := (-99002 : Int32)) hx hb hown (X.2.2.2.2.2.1 _ wL_refuses_15) dL_refuses_108 ?_
    refine lv_icmp_ne (tgt := 332) hx hb dL_refuses_110 (by decide) (fun c_31 => ?_) (fun c_31 => ?_)
    · replace hf := ite_f c_31 hf
      exact bL_refuses_332 X hl0 z0 v1 _ _ _ _ _ (by omega) (by omega) hW0 hS (lv_sub hl [0, 1] rfl) hf
    · replace hf := ite_t c_31 hf
      exact bL_refuses_113 X hl0 z0 v1 v2 _ _ _ _ _ (by omega) (by omega) hW0 hS (lv_sub hl [0, 1, 2] rfl) hf
set_option maxRecDepth 100000 in
set_option maxHeartbeats 4000000 in
theorem bL_refuses_68 {p : Program} {l : Launch} {e : Env} {s : State} {m : MethodId} {args : Array Value} {below : List Frame} {meth : Method} {c : Code} {D : va_G} {cy : Nat → ClassId} {ad0 : Nat → Nat} {ba0 : Nat → Prop} {res : (Int32 × aS)} (X : teC wsL_refuses RL cL_refuses 4 (some .boolean) D cy ba0 p s m args meth c) (hl0 : l.stackTraces = false) : ∀ (z0 : aS) (v1 : Int32) (v2 : Int32) (H : Heap) (locs : List Loc) (ls : Array Slot) (ce sl : Nat), ce + (39) ≤ 44 → sl + (234) ≤ 264 → aR D cy ad0 ba0 z0 H → va_S ba0 s.heap H locs → lv_has ls 4 [(0, .ref (ad0 360)), (1, .int v1), (2, .int v2)] → hL_refuses_68 z0 v1 v2 = some res → W p l e (headSpec wsL_refuses rmL_refuses).room s m args below meth c H locs ce sl (MQ below (va_Qi (fun a (_ : Unit) => a = res.1) (fun _ t => (aR D cy ad0 ba0 res.2) t.heap) ba0) args s 44 264 ba0) (F0 m 68 ls []) := by
  have hx := X.1
  have hb := X.2.1
  have hown := X.2.2.2.2.1
  intro z0 v1 v2 H locs ls ce sl hb1_ hb2_ hW0 hS hl hf
  unfold hL_refuses_68 at hf
  refine lv_aload_n hx hb dL_refuses_68 rfl (lv_at hl 0 rfl) ?_
  refine lv_iload_n hx hb dL_refuses_69 rfl (lv_at hl 1 rfl) ?_
  refine lv_iconst (v := (0 : Int32)) hx hb dL_refuses_70 (by decide) ?_
  refine lv_iconst (v := (4 : Int32)) hx hb dL_refuses_71 (by decide) ?_
  refine kA (As := [.ref (ad0 360), .int v1, .int (0 : Int32), .int (4 : Int32)]) (rest := []) X (fun q h => h) hW0 hS (tI_tryBoth l D cy ad0 ba0 hl0 z0 v1 (0 : Int32) (4 : Int32)) (vx_cwSW (hh := [(0, 7, 8, 30), (0, 7, 13, 13)]) 4 X.2.2.2.2.2.1 gL_refuses_L_tryBoth rfl rfl rfl kdL_tryBoth.2 ⟨(Nat.le_of_ble_eq_true rfl), (Nat.le_of_ble_eq_true rfl)⟩) rfl rfl hl.1 (Nat.le_of_ble_eq_true rfl) ⟨by show _ ≤ 44; omega, by show _ ≤ 264; omega⟩ dL_refuses_72 (fun H locs hW0 hS hz hk => ?_)
  clear hz hk
  refine lv_ldc (v := (-99001 : Int32)) hx hb hown (X.2.2.2.2.2.1 _ wL_refuses_32) dL_refuses_75 ?_
  refine lv_icmp_ne (tgt := 332) hx hb dL_refuses_77 (by decide) (fun c_7 => ?_) (fun c_7 => ?_)
  · replace hf := ite_f c_7 hf
    exact bL_refuses_332 X hl0 z0 v1 _ _ _ _ _ (by omega) (by omega) hW0 hS (lv_sub hl [0, 1] rfl) hf
  · replace hf := ite_t c_7 hf
    refine lv_iload_n hx hb dL_refuses_80 rfl (lv_at hl 1 rfl) ?_
    refine lv_if_eq (tgt := 96) hx hb dL_refuses_81 (by decide) (fun c_8 => ?_) (fun c_8 => ?_)
    · replace hf := ite_t c_8 hf
      exact bL_refuses_96 X hl0 z0 v1 v2 _ _ _ _ _ (by omega) (by omega) hW0 hS (lv_sub hl [0, 1, 2] rfl) hf
    · replace hf := ite_f c_8 hf
      refine lv_aload_n hx hb dL_refuses_84 rfl (lv_at hl 0 rfl) ?_
      refine lv_iconst (v := (0 : Int32)) hx hb dL_refuses_85 (by decide) ?_
      refine lv_iconst (v := (0 : Int32)) hx hb dL_refuses_86 (by decide) ?_
      refine lv_iconst (v := (0 : Int32)) hx hb dL_refuses_87 (by decide) ?_
      refine kA (As := [.ref (ad0 360), .int (0 : Int32), .int (0 : Int32), .int (0 : Int32)]) (rest := []) X (fun q h => h) hW0 hS (tI_tryBoth l D cy ad0 ba0 hl0 z0 (0 : Int32) (0 : Int32) (0 : Int32)) (vx_cwSW (hh := [(0, 7, 8, 30), (0, 7, 13, 13)]) 4 X.2.2.2.2.2.1 gL_refuses_L_tryBoth rfl rfl rfl kdL_tryBoth.2 ⟨(Nat.le_of_ble_eq_true rfl), (Nat.le_of_ble_eq_true rfl)⟩) rfl rfl hl.1 (Nat.le_of_ble_eq_true rfl) ⟨by show _ ≤ 44; omega, by show _ ≤ 264; omega⟩ dL_refuses_88 (fun H locs hW0 hS hz hk => ?_)
      clear hz hk
      refine lv_ldc (v := (-99002 : Int32)) hx hb hown (X.2.2.2.2.2.1 _ wL_refuses_15) dL_refuses_91 ?_
      refine lv_icmp_ne (tgt := 332) hx hb dL_refuses_93 (by decide) (fun c_9 => ?_) (fun c_9 => ?_)
      · replace hf := ite_f c_9 hf
        exact bL_refuses_332 X hl0 z0 v1 _ _ _ _ _ (by omega) (by omega) hW0 hS (lv_sub hl [0, 1] rfl) hf
      · replace hf := ite_t c_9 hf
        exact bL_refuses_96 X hl0 z0 v1 v2 _ _ _ _ _ (by omega) (by omega) hW0 hS (lv_sub hl [0, 1, 2] rfl) hf
set_option maxRecDepth 100000 in
set_option maxHeartbeats 4000000 in
theorem bL_refuses_28 {p : Program} {l : Launch} {e : Env} {s : State} {m : MethodId} {args : Array Value} {below : List Frame} {meth : Method} {c : Code} {D : va_G} {cy : Nat → ClassId} {ad0 : Nat → Nat} {ba0 : Nat → Prop} {res : (Int32 × aS)} (X : teC wsL_refuses RL cL_refuses 4 (some .boolean) D cy ba0 p s m args meth c) (hl0 : l.stackTraces = false) : ∀ (z0 : aS) (v1 : Int32) (y0 : Int32) (H : Heap) (locs : List Loc) (ls : Array Slot) (ce sl : Nat), ce + (42) ≤ 44 → sl + (252) ≤ 264 → aR D cy ad0 ba0 z0 H → va_S ba0 s.heap H locs → lv_has ls 4 [(0, .ref (ad0 360)), (1, .int v1)] → hL_refuses_28 z0 v1 y0 = some res → W p l e (headSpec wsL_refuses rmL_refuses).room s m args below meth c H locs ce sl (MQ below (va_Qi (fun a (_ : Unit) => a = res.1) (fun _ t => (aR D cy ad0 ba0 res.2) t.heap) ba0) args s 44 264 ba0) (F0 m 28 ls [.int y0]) := by
  have hx := X.1
  have hb := X.2.1
  have hown := X.2.2.2.2.1
  intro z0 v1 y0 H locs ls ce sl hb1_ hb2_ hW0 hS hl hf
  unfold hL_refuses_28 at hf
  refine lv_istore_n (lv' := [(2, .int y0), (0, .ref (ad0 360)), (1, .int v1)]) hx hb dL_refuses_28 rfl hl (by decide) rfl (fun ls hl => ?_)
  refine lv_aload_n hx hb dL_refuses_29 rfl (lv_at hl 1 rfl) ?_
  refine lv_bipush (v := (7 : Int32)) hx hb dL_refuses_30 (by decide) ?_
  refine kA (As := [.ref (ad0 360), .int (7 : Int32)]) (rest := []) X (fun q h => h) hW0 hS (tI_tryAbout l D cy ad0 ba0 hl0 z0 (7 : Int32)) (vx_cwSW (hh := [(0, 5, 6, 13)]) 2 X.2.2.2.2.2.1 gL_refuses_L_tryAbout rfl rfl rfl kdL_tryAbout.2 ⟨(Nat.le_of_ble_eq_true rfl), (Nat.le_of_ble_eq_true rfl)⟩) rfl rfl hl.1 (Nat.le_of_ble_eq_true rfl) ⟨by show _ ≤ 44; omega, by show _ ≤ 264; omega⟩ dL_refuses_32 (fun H locs hW0 hS hz hk => ?_)
  clear hz hk
  refine lv_ldc (v := (-99002 : Int32)) hx hb hown (X.2.2.2.2.2.1 _ wL_refuses_15) dL_refuses_35 ?_
  refine lv_icmp_ne (tgt := 332) hx hb dL_refuses_37 (by decide) (fun c_3 => ?_) (fun c_3 => ?_)
  · replace hf := ite_f c_3 hf
    exact bL_refuses_332 X hl0 z0 v1 _ _ _ _ _ (by omega) (by omega) hW0 hS (lv_sub hl [1, 2] rfl) hf
  · replace hf := ite_t c_3 hf
    refine lv_aload_n hx hb dL_refuses_40 rfl (lv_at hl 1 rfl) ?_
    refine lv_iload_n hx hb dL_refuses_41 rfl (lv_at hl 2 rfl) ?_
    refine lv_bipush (v := (11 : Int32)) hx hb dL_refuses_42 (by decide) ?_
    refine kA (As := [.ref (ad0 360), .int v1, .int (11 : Int32)]) (rest := []) X (fun q h => h) hW0 hS (tI_tryMember l D cy ad0 ba0 hl0 z0 v1 (11 : Int32)) (vx_cwSW (hh := [(0, 6, 7, 30), (0, 6, 11, 13)]) 3 X.2.2.2.2.2.1 gL_refuses_L_tryMember rfl rfl rfl kdL_tryMember.2 ⟨(Nat.le_of_ble_eq_true rfl), (Nat.le_of_ble_eq_true rfl)⟩) rfl rfl hl.1 (Nat.le_of_ble_eq_true rfl) ⟨by show _ ≤ 44; omega, by show _ ≤ 264; omega⟩ dL_refuses_44 (fun H locs hW0 hS hz hk => ?_)
    clear hz hk
    refine lv_ldc (v := (-99001 : Int32)) hx hb hown (X.2.2.2.2.2.1 _ wL_refuses_32) dL_refuses_47 ?_
    refine lv_icmp_ne (tgt := 332) hx hb dL_refuses_49 (by decide) (fun c_4 => ?_) (fun c_4 => ?_)
    · replace hf := ite_f c_4 hf
      exact bL_refuses_332 X hl0 z0 v1 _ _ _ _ _ (by omega) (by omega) hW0 hS (lv_sub hl [1, 2] rfl) hf
    · replace hf := ite_t c_4 hf
      refine lv_iload_n hx hb dL_refuses_52 rfl (lv_at hl 2 rfl) ?_
      refine lv_if_eq (tgt := 68) hx hb dL_refuses_53 (by decide) (fun c_5 => ?_) (fun c_5 => ?_)
      · replace hf := ite_t c_5 hf
        exact bL_refuses_68 X hl0 z0 v1 y0 _ _ _ _ _ (by omega) (by omega) hW0 hS (lv_sub hl [1, 2, 0] rfl) hf
      · replace hf := ite_f c_5 hf
        refine lv_aload_n hx hb dL_refuses_56 rfl (lv_at hl 1 rfl) ?_
        refine lv_iconst (v := (0 : Int32)) hx hb dL_refuses_57 (by decide) ?_
        refine lv_bipush (v := (11 : Int32)) hx hb dL_refuses_58 (by decide) ?_
        refine kA (As := [.ref (ad0 360), .int (0 : Int32), .int (11 : Int32)]) (rest := []) X (fun q h => h) hW0 hS (tI_tryMember l D cy ad0 ba0 hl0 z0 (0 : Int32) (11 : Int32)) (vx_cwSW (hh := [(0, 6, 7, 30), (0, 6, 11, 13)]) 3 X.2.2.2.2.2.1 gL_refuses_L_tryMember rfl rfl rfl kdL_tryMember.2 ⟨(Nat.le_of_ble_eq_true rfl), (Nat.le_of_ble_eq_true rfl)⟩) rfl rfl hl.1 (Nat.le_of_ble_eq_true rfl) ⟨by show _ ≤ 44; omega, by show _ ≤ 264; omega⟩ dL_refuses_60 (fun H locs hW0 hS hz hk => ?_)
        clear hz hk
        refine lv_ldc (v := (-99002 : Int32)) hx hb hown (X.2.2.2.2.2.1 _ wL_refuses_15) dL_refuses_63 ?_
        refine lv_icmp_ne (tgt := 332) hx hb dL_refuses_65 (by decide) (fun c_6 => ?_) (fun c_6 => ?_)
        · replace hf := ite_f c_6 hf
          exact bL_refuses_332 X hl0 z0 v1 _ _ _ _ _ (by omega) (by omega) hW0 hS (lv_sub hl [1, 2] rfl) hf
        · replace hf := ite_t c_6 hf
          exact bL_refuses_68 X hl0 z0 v1 y0 _ _ _ _ _ (by omega) (by omega) hW0 hS (lv_sub hl [1, 2, 0] rfl) hf
set_option maxRecDepth 100000 in
set_option maxHeartbeats 4000000 in
theorem bL_refuses_0 {p : Program} {l : Launch} {e : Env} {s : State} {m : MethodId} {args : Array Value} {below : List Frame} {meth : Method} {c : Code} {D : va_G} {cy : Nat → ClassId} {ad0 : Nat → Nat} {ba0 : Nat → Prop} {res : (Int32 × aS)} (X : teC wsL_refuses RL cL_refuses 4 (some .boolean) D cy ba0 p s m args meth c) (hl0 : l.stackTraces = false) : ∀ (z0 : aS) (H : Heap) (locs : List Loc) (ls : Array Slot) (ce sl : Nat), ce + (44) ≤ 44 → sl + (264) ≤ 264 → aR D cy ad0 ba0 z0 H → va_S ba0 s.heap H locs → lv_has ls 4 [(0, .ref (ad0 360))] → hL_refuses z0 = some res → W p l e (headSpec wsL_refuses rmL_refuses).room s m args below meth c H locs ce sl (MQ below (va_Qi (fun a (_ : Unit) => a = res.1) (fun _ t => (aR D cy ad0 ba0 res.2) t.heap) ba0) args s 44 264 ba0) (F0 m 0 ls []) := by
  have hx := X.1
  have hb := X.2.1
  have hown := X.2.2.2.2.1
  intro z0 H locs ls ce sl hb1_ hb2_ hW0 hS hl hf
  unfold hL_refuses at hf
  refine lv_aload_n hx hb dL_refuses_0 rfl (lv_at hl 0 rfl) ?_
  refine lv_iconst (v := (0 : Int32)) hx hb dL_refuses_1 (by decide) ?_
  refine kA (As := [.ref (ad0 360), .int (0 : Int32)]) (rest := []) X (fun q h => h) hW0 hS (tI_tryAbout l D cy ad0 ba0 hl0 z0 (0 : Int32)) (vx_cwSW (hh := [(0, 5, 6, 13)]) 2 X.2.2.2.2.2.1 gL_refuses_L_tryAbout rfl rfl rfl kdL_tryAbout.2 ⟨(Nat.le_of_ble_eq_true rfl), (Nat.le_of_ble_eq_true rfl)⟩) rfl rfl hl.1 (Nat.le_of_ble_eq_true rfl) ⟨by show _ ≤ 44; omega, by show _ ≤ 264; omega⟩ dL_refuses_2 (fun H locs hW0 hS hz hk => ?_)
  clear hz hk
  refine lv_istore_n (lv' := [(1, .int (A_tryAbout z0 (0 : Int32))), (0, .ref (ad0 360))]) hx hb dL_refuses_5 rfl hl (by decide) rfl (fun ls hl => ?_)
  refine lv_iload_n hx hb dL_refuses_6 rfl (lv_at hl 0 rfl) ?_
  refine lv_if_le (tgt := 27) hx hb dL_refuses_7 (by decide) (fun c_1 => ?_) (fun c_1 => ?_)
  · replace hf := ite_t c_1 hf
    refine lv_iconst (v := (0 : Int32)) hx hb dL_refuses_27 (by decide) ?_
    exact bL_refuses_28 X hl0 z0 (A_tryAbout z0 (0 : Int32)) (0 : Int32) _ _ _ _ _ (by omega) (by omega) hW0 hS (lv_sub hl [1, 0] rfl) hf
  · replace hf := ite_f c_1 hf
    refine lv_aload_n hx hb dL_refuses_10 rfl (lv_at hl 1 rfl) ?_
    refine lv_iconst (v := (0 : Int32)) hx hb dL_refuses_11 (by decide) ?_
    refine lv_bipush (v := (8 : Int32)) hx hb dL_refuses_12 (by decide) ?_
    refine kA (As := [.ref (ad0 360), .int (0 : Int32), .int (8 : Int32)]) (rest := []) X (fun q h => h) hW0 hS (tI_tryMember l D cy ad0 ba0 hl0 z0 (0 : Int32) (8 : Int32)) (vx_cwSW (hh := [(0, 6, 7, 30), (0, 6, 11, 13)]) 3 X.2.2.2.2.2.1 gL_refuses_L_tryMember rfl rfl rfl kdL_tryMember.2 ⟨(Nat.le_of_ble_eq_true rfl), (Nat.le_of_ble_eq_true rfl)⟩) rfl rfl hl.1 (Nat.le_of_ble_eq_true rfl) ⟨by show _ ≤ 44; omega, by show _ ≤ 264; omega⟩ dL_refuses_14 (fun H locs hW0 hS hz hk => ?_)
    clear hz hk
    refine lv_sipush (v := (-9999 : Int32)) hx hb dL_refuses_17 (by decide) ?_
    refine lv_icmp_eq (tgt := 27) hx hb dL_refuses_20 (by decide) (fun c_2 => ?_) (fun c_2 => ?_)
    · replace hf := ite_t c_2 hf
      refine lv_iconst (v := (0 : Int32)) hx hb dL_refuses_27 (by decide) ?_
      exact bL_refuses_28 X hl0 z0 (A_tryAbout z0 (0 : Int32)) (0 : Int32) _ _ _ _ _ (by omega) (by omega) hW0 hS (lv_sub hl [1, 0] rfl) hf
    · replace hf := ite_f c_2 hf
      refine lv_iconst (v := (1 : Int32)) hx hb dL_refuses_23 (by decide) ?_
      refine lv_goto (tgt := 28) hx hb dL_refuses_24 (by decide) ?_
      exact bL_refuses_28 X hl0 z0 (A_tryAbout z0 (0 : Int32)) (1 : Int32) _ _ _ _ _ (by omega) (by omega) hW0 hS (lv_sub hl [1, 0] rfl) hf
theorem zcL_refuses (l : Launch) (D : va_G) (cy : Nat → ClassId) (ad0 : Nat → Nat) (ba0 : Nat → Prop) (hl0 : l.stackTraces = false) {z0 : aS} (res : (Int32 × aS)) (hf : hL_refuses z0 = some res) : aJ l yL_refuses wsL_refuses rmL_refuses 44 264 D cy ba0 (aR D cy ad0 ba0 z0) false 0 0 (fun _ => 0) [.ref (ad0 360)] res.1 (aR D cy ad0 ba0 res.2) :=
  a_of (by decide) rfl (Nat.le_of_ble_eq_true rfl) (fun p e s m below meth c ls X hW hX hS hl => bL_refuses_0 X hl0 z0 _ _ _ 0 0 (Nat.le_of_ble_eq_true rfl) (Nat.le_of_ble_eq_true rfl) hW hS hl hf)
