abbrev rmX4_add : Room := { frames := 0, cells := 0, slots := 0, locals := 0 }
theorem kdX4_add : yX4_add.cls = RX4 ∧ yX4_add.cls ≠ "java/lang/invoke/MethodHandle" ∧ yX4_add.cls ≠ "java/lang/invoke/VarHandle" ∧ (parseMethodDescriptor yX4_add.desc).map (fun d => d.parameters.length) = some 1 := by decide +kernel
theorem wX4_add_15 : Cond.fieldLink RX4 15 "TandemExchange$Text" "length" "I" ∈ wsX4_add := by decide +kernel
theorem iX4_add_4 : ∀ w ∈ wsX40, w ∈ wsX4_add := fun _ h => List.mem_cons_of_mem _ (List.mem_append_right _ h)
theorem wX4_add_9 : Cond.fieldLink RX4 9 "TandemExchange$Text" "characters" "[C" ∈ wsX4_add := by decide +kernel
set_option maxRecDepth 100000 in
set_option maxHeartbeats 4000000 in
theorem bX4_add_0 {p : Program} {l : Launch} {e : Env} {s : State} {m : MethodId} {args : Array Value} {below : List Frame} {meth : Method} {c : Code} {D : va_G} {cy : Nat → ClassId} {ad : Nat → Nat} {ba : Nat → Prop} {O : Int64} {S : teS}  {x1 : Int32} {res : teS} (X : teC wsX4_add RX4 cX4_add 2 none D cy ba p s m args meth c) (H : Heap) (locs : List Loc) (ls : Array Slot) (hR : teR D cy ad ba O S H) (hS : va_S (teA ba) s.heap H locs) (hl : lv_has ls 2 [(0, .ref (ad 361)), (1, .int x1)]) (hf : fX4_add x1 S = some res) : W p l e (headSpec wsX4_add rmX4_add).room s m args below meth c H locs 0 0 (MQ below (va_Qv (fun (u : teS) => u = res) (fun u t => teR D cy ad ba O u t.heap) (teA ba)) args s 0 0 (teA ba)) (F0 m 0 ls []) := by
  have hx := X.1
  have hb := X.2.1
  have hown := X.2.2.2.2.1
  unfold fX4_add at hf
  refine lv_aload_n hx hb dX4_add_0 rfl (lv_at hl 0 rfl) ?_
  refine rg_4_1 X hR iX4_add_4 wX4_add_15 dX4_add_1 ?_
  refine lv_bipush (v := (90 : Int32)) hx hb dX4_add_4 (by decide) ?_
  refine lv_icmp_ge (tgt := 29) hx hb dX4_add_6 (by decide) (fun c_1 => ?_) (fun c_1 => ?_)
  · replace hf := ite_t c_1 hf
    exact eV X hR hS (Option.some.inj hf) dX4_add_29
  · replace hf := ite_f c_1 hf
    refine lv_aload_n hx hb dX4_add_9 rfl (lv_at hl 0 rfl) ?_
    refine rg_4_0 X hR iX4_add_4 wX4_add_9 dX4_add_10 ?_
    refine lv_aload_n hx hb dX4_add_13 rfl (lv_at hl 0 rfl) ?_
    refine rg_4_1 X hR iX4_add_4 wX4_add_15 dX4_add_14 ?_
    refine lv_iload_n hx hb dX4_add_17 rfl (lv_at hl 1 rfl) ?_
    obtain ⟨h_2, hf⟩ := chk_some hf
    refine rs_chr X hR hS h_2 dX4_add_18 (fun H locs hR hS => ?_)
    generalize teu S 362 (S 361 0).toNatClampNeg (vp_nar .char x1) = S1 at hf hR
    replace hf := lt1_e hf
    refine lv_aload_n hx hb dX4_add_19 rfl (lv_at hl 0 rfl) ?_
    refine lv_dup hx hb dX4_add_20 rfl ?_
    refine rg_4_1 X hR iX4_add_4 wX4_add_15 dX4_add_21 ?_
    refine lv_iconst (v := (1 : Int32)) hx hb dX4_add_24 (by decide) ?_
    refine lv_iadd hx hb dX4_add_25 ?_
    refine rp_4_1 X hR hS iX4_add_4 wX4_add_15 dX4_add_26 (fun H locs hR hS => ?_)
    generalize teu S1 361 0 ((S1 361 0) + (1 : Int32)) = S2 at hf hR
    replace hf := lt1_e hf
    exact eV X hR hS (Option.some.inj hf) dX4_add_29
theorem zcX4_add (l : Launch) (D : va_G) (cy : Nat → ClassId) (ad : Nat → Nat) (ba : Nat → Prop) (O : Int64) (S : teS) (x1 : Int32) (res : teS) (hf : fX4_add x1 S = some res) : cV l yX4_add wsX4_add rmX4_add D cy ad ba O S [.ref (ad 361), .int x1] res :=
  te_of (by decide +kernel) rfl (Nat.le_of_ble_eq_true rfl) (fun p e s m below meth c ls X hR hS hl => bX4_add_0 (S := S) (x1 := x1) X _ _ _ hR hS hl hf)
abbrev rmX4_allows : Room := { frames := 0, cells := 0, slots := 0, locals := 0 }
theorem kdX4_allows : yX4_allows.cls = RX4 ∧ yX4_allows.cls ≠ "java/lang/invoke/MethodHandle" ∧ yX4_allows.cls ≠ "java/lang/invoke/VarHandle" ∧ (parseMethodDescriptor yX4_allows.desc).map (fun d => d.parameters.length) = some 2 := by decide +kernel
set_option maxRecDepth 100000 in
set_option maxHeartbeats 4000000 in
theorem bX4_allows_59 {p : Program} {l : Launch} {e : Env} {s : State} {m : MethodId} {args : Array Value} {below : List Frame} {meth : Method} {c : Code} {D : va_G} {cy : Nat → ClassId} {ad : Nat → Nat} {ba : Nat → Prop} {O : Int64} {S : teS}  {x1 : Int32} {x2 : Int32} {res : Int32} (X : teC wsX4_allows RX4 cX4_allows 5 (some .boolean) D cy ba p s m args meth c) : ∀  (y0 : Int32) (H : Heap) (locs : List Loc) (ls : Array Slot), teR D cy ad ba O S H → va_S (teA ba) s.heap H locs → lv_has ls 5 [(2, .int x2)] → fX4_allows_59 x1 x2 S y0 = some res → W p l e (headSpec wsX4_allows rmX4_allows).room s m args below meth c H locs 0 0 (MQ below (va_Qi (fun a (u : teS) => a = res ∧ u = S) (fun u t => teR D cy ad ba O u t.heap) (teA ba)) args s 0 0 (teA ba)) (F0 m 59 ls [.int y0]) := by
  have hx := X.1
  have hb := X.2.1
  have hown := X.2.2.2.2.1
  intro y0 H locs ls hR hS hl hf
  unfold fX4_allows_59 at hf
  refine lv_istore (lv' := [(4, .int y0), (2, .int x2)]) hx hb dX4_allows_59 hl (by decide) rfl (fun ls hl => ?_)
  refine lv_iload_n hx hb dX4_allows_61 rfl (lv_at hl 1 rfl) ?_
  refine lv_bipush (v := (48 : Int32)) hx hb dX4_allows_62 (by decide) ?_
  refine lv_icmp_lt (tgt := 77) hx hb dX4_allows_64 (by decide) (fun c_7 => ?_) (fun c_7 => ?_)
  · replace hf := ite_t c_7 hf
    refine lv_iconst (v := (0 : Int32)) hx hb dX4_allows_77 (by decide) ?_
    exact eZ X hR hS (by decide) (Option.some.inj hf) rfl dX4_allows_78
  · replace hf := ite_f c_7 hf
    refine lv_iload_n hx hb dX4_allows_67 rfl (lv_at hl 1 rfl) ?_
    refine lv_iload hx hb dX4_allows_68 (lv_at hl 0 rfl) ?_
    refine lv_icmp_gt (tgt := 77) hx hb dX4_allows_70 (by decide) (fun c_8 => ?_) (fun c_8 => ?_)
    · replace hf := ite_t c_8 hf
      refine lv_iconst (v := (0 : Int32)) hx hb dX4_allows_77 (by decide) ?_
      exact eZ X hR hS (by decide) (Option.some.inj hf) rfl dX4_allows_78
    · replace hf := ite_f c_8 hf
      refine lv_iconst (v := (1 : Int32)) hx hb dX4_allows_73 (by decide) ?_
      refine lv_goto (tgt := 78) hx hb dX4_allows_74 (by decide) ?_
      exact eZ X hR hS (by decide) (Option.some.inj hf) rfl dX4_allows_78
set_option maxRecDepth 100000 in
set_option maxHeartbeats 4000000 in
theorem bX4_allows_0 {p : Program} {l : Launch} {e : Env} {s : State} {m : MethodId} {args : Array Value} {below : List Frame} {meth : Method} {c : Code} {D : va_G} {cy : Nat → ClassId} {ad : Nat → Nat} {ba : Nat → Prop} {O : Int64} {S : teS}  {x1 : Int32} {x2 : Int32} {res : Int32} (X : teC wsX4_allows RX4 cX4_allows 5 (some .boolean) D cy ba p s m args meth c) (H : Heap) (locs : List Loc) (ls : Array Slot) (hR : teR D cy ad ba O S H) (hS : va_S (teA ba) s.heap H locs) (hl : lv_has ls 5 [(0, .ref (ad 361)), (1, .int x1), (2, .int x2)]) (hf : fX4_allows x1 x2 S = some res) : W p l e (headSpec wsX4_allows rmX4_allows).room s m args below meth c H locs 0 0 (MQ below (va_Qi (fun a (u : teS) => a = res ∧ u = S) (fun u t => teR D cy ad ba O u t.heap) (teA ba)) args s 0 0 (teA ba)) (F0 m 0 ls []) := by
  have hx := X.1
  have hb := X.2.1
  have hown := X.2.2.2.2.1
  unfold fX4_allows at hf
  refine lv_iload_n hx hb dX4_allows_0 rfl (lv_at hl 1 rfl) ?_
  refine lv_if_ne (tgt := 16) hx hb dX4_allows_1 (by decide) (fun c_1 => ?_) (fun c_1 => ?_)
  · replace hf := ite_f c_1 hf
    refine lv_iload_n hx hb dX4_allows_16 rfl (lv_at hl 1 rfl) ?_
    refine lv_bipush (v := (72 : Int32)) hx hb dX4_allows_17 (by decide) ?_
    refine lv_icmp_le (tgt := 24) hx hb dX4_allows_19 (by decide) (fun c_2 => ?_) (fun c_2 => ?_)
    · replace hf := ite_t c_2 hf
      refine lv_iload_n hx hb dX4_allows_24 rfl (lv_at hl 1 rfl) ?_
      refine lv_iconst (v := (1 : Int32)) hx hb dX4_allows_25 (by decide) ?_
      refine lv_isub hx hb dX4_allows_26 ?_
      refine lv_bipush (v := (8 : Int32)) hx hb dX4_allows_27 (by decide) ?_
      refine lv_irem hx hb dX4_allows_29 (by decide) ?_
      refine lv_istore_n (lv' := [(3, .int ((x1 - (1 : Int32)) - (x1 - (1 : Int32)) / (8 : Int32) * (8 : Int32))), (0, .ref (ad 361)), (1, .int x1), (2, .int x2)]) hx hb dX4_allows_30 rfl hl (by decide) rfl (fun ls hl => ?_)
      refine lv_iload_n hx hb dX4_allows_31 rfl (lv_at hl 0 rfl) ?_
      refine lv_if_ne (tgt := 47) hx hb dX4_allows_32 (by decide) (fun c_3 => ?_) (fun c_3 => ?_)
      · replace hf := ite_f c_3 hf
        refine lv_iload_n hx hb dX4_allows_47 rfl (lv_at hl 0 rfl) ?_
        refine lv_iconst (v := (1 : Int32)) hx hb dX4_allows_48 (by decide) ?_
        refine lv_icmp_ne (tgt := 57) hx hb dX4_allows_49 (by decide) (fun c_4 => ?_) (fun c_4 => ?_)
        · replace hf := ite_f c_4 hf
          refine lv_bipush (v := (57 : Int32)) hx hb dX4_allows_57 (by decide) ?_
          exact bX4_allows_59 (S := S) (x1 := x1) (x2 := x2) X ((57 : Int32)) _ _ _ hR hS (lv_sub hl [3] rfl) hf
        · replace hf := ite_t c_4 hf
          refine lv_bipush (v := (51 : Int32)) hx hb dX4_allows_52 (by decide) ?_
          refine lv_goto (tgt := 59) hx hb dX4_allows_54 (by decide) ?_
          exact bX4_allows_59 (S := S) (x1 := x1) (x2 := x2) X ((51 : Int32)) _ _ _ hR hS (lv_sub hl [3] rfl) hf
      · replace hf := ite_t c_3 hf
        refine lv_iload_n hx hb dX4_allows_35 rfl (lv_at hl 3 rfl) ?_
        refine lv_bipush (v := (109 : Int32)) hx hb dX4_allows_36 (by decide) ?_
        refine lv_icmp_ne (tgt := 45) hx hb dX4_allows_38 (by decide) (fun c_5 => ?_) (fun c_5 => ?_)
        · replace hf := ite_f c_5 hf
          refine lv_iconst (v := (0 : Int32)) hx hb dX4_allows_45 (by decide) ?_
          exact eZ X hR hS (by decide) (Option.some.inj hf) rfl dX4_allows_46
        · replace hf := ite_t c_5 hf
          refine lv_iconst (v := (1 : Int32)) hx hb dX4_allows_41 (by decide) ?_
          refine lv_goto (tgt := 46) hx hb dX4_allows_42 (by decide) ?_
          exact eZ X hR hS (by decide) (Option.some.inj hf) rfl dX4_allows_46
    · replace hf := ite_f c_2 hf
      refine lv_iconst (v := (0 : Int32)) hx hb dX4_allows_22 (by decide) ?_
      exact eZ X hR hS (by decide) (Option.some.inj hf) rfl dX4_allows_23
  · replace hf := ite_t c_1 hf
    refine lv_iload_n hx hb dX4_allows_4 rfl (lv_at hl 2 rfl) ?_
    refine lv_bipush (v := (76 : Int32)) hx hb dX4_allows_5 (by decide) ?_
    refine lv_icmp_ne (tgt := 14) hx hb dX4_allows_7 (by decide) (fun c_6 => ?_) (fun c_6 => ?_)
    · replace hf := ite_f c_6 hf
      refine lv_iconst (v := (0 : Int32)) hx hb dX4_allows_14 (by decide) ?_
      exact eZ X hR hS (by decide) (Option.some.inj hf) rfl dX4_allows_15
    · replace hf := ite_t c_6 hf
      refine lv_iconst (v := (1 : Int32)) hx hb dX4_allows_10 (by decide) ?_
      refine lv_goto (tgt := 15) hx hb dX4_allows_11 (by decide) ?_
      exact eZ X hR hS (by decide) (Option.some.inj hf) rfl dX4_allows_15
theorem zcX4_allows (l : Launch) (D : va_G) (cy : Nat → ClassId) (ad : Nat → Nat) (ba : Nat → Prop) (O : Int64) (S : teS) (x1 : Int32) (x2 : Int32) (res : Int32) (hf : fX4_allows x1 x2 S = some res) : cI l yX4_allows wsX4_allows rmX4_allows D cy ad ba O S [.ref (ad 361), .int x1, .int x2] res S :=
  te_of (by decide +kernel) rfl (Nat.le_of_ble_eq_true rfl) (fun p e s m below meth c ls X hR hS hl => bX4_allows_0 (S := S) (x1 := x1) (x2 := x2) X _ _ _ hR hS hl hf)
abbrev rmX4_isWhole : Room := { frames := 0, cells := 0, slots := 0, locals := 0 }
theorem kdX4_isWhole : yX4_isWhole.cls = RX4 ∧ yX4_isWhole.cls ≠ "java/lang/invoke/MethodHandle" ∧ yX4_isWhole.cls ≠ "java/lang/invoke/VarHandle" ∧ (parseMethodDescriptor yX4_isWhole.desc).map (fun d => d.parameters.length) = some 0 := by decide +kernel
theorem wX4_isWhole_15 : Cond.fieldLink RX4 15 "TandemExchange$Text" "length" "I" ∈ wsX4_isWhole := by decide +kernel
theorem iX4_isWhole_4 : ∀ w ∈ wsX40, w ∈ wsX4_isWhole := fun _ h => List.mem_cons_of_mem _ (List.mem_append_right _ h)
set_option maxRecDepth 100000 in
set_option maxHeartbeats 4000000 in
theorem bX4_isWhole_0 {p : Program} {l : Launch} {e : Env} {s : State} {m : MethodId} {args : Array Value} {below : List Frame} {meth : Method} {c : Code} {D : va_G} {cy : Nat → ClassId} {ad : Nat → Nat} {ba : Nat → Prop} {O : Int64} {S : teS}  {res : Int32} (X : teC wsX4_isWhole RX4 cX4_isWhole 1 (some .boolean) D cy ba p s m args meth c) (H : Heap) (locs : List Loc) (ls : Array Slot) (hR : teR D cy ad ba O S H) (hS : va_S (teA ba) s.heap H locs) (hl : lv_has ls 1 [(0, .ref (ad 361))]) (hf : fX4_isWhole S = some res) : W p l e (headSpec wsX4_isWhole rmX4_isWhole).room s m args below meth c H locs 0 0 (MQ below (va_Qi (fun a (u : teS) => a = res ∧ u = S) (fun u t => teR D cy ad ba O u t.heap) (teA ba)) args s 0 0 (teA ba)) (F0 m 0 ls []) := by
  have hx := X.1
  have hb := X.2.1
  have hown := X.2.2.2.2.1
  unfold fX4_isWhole at hf
  refine lv_aload_n hx hb dX4_isWhole_0 rfl (lv_at hl 0 rfl) ?_
  refine rg_4_1 X hR iX4_isWhole_4 wX4_isWhole_15 dX4_isWhole_1 ?_
  refine lv_if_le (tgt := 23) hx hb dX4_isWhole_4 (by decide) (fun c_1 => ?_) (fun c_1 => ?_)
  · replace hf := ite_t c_1 hf
    refine lv_iconst (v := (0 : Int32)) hx hb dX4_isWhole_23 (by decide) ?_
    exact eZ X hR hS (by decide) (Option.some.inj hf) rfl dX4_isWhole_24
  · replace hf := ite_f c_1 hf
    refine lv_aload_n hx hb dX4_isWhole_7 rfl (lv_at hl 0 rfl) ?_
    refine rg_4_1 X hR iX4_isWhole_4 wX4_isWhole_15 dX4_isWhole_8 ?_
    refine lv_iconst (v := (1 : Int32)) hx hb dX4_isWhole_11 (by decide) ?_
    refine lv_isub hx hb dX4_isWhole_12 ?_
    refine lv_bipush (v := (8 : Int32)) hx hb dX4_isWhole_13 (by decide) ?_
    refine lv_irem hx hb dX4_isWhole_15 (by decide) ?_
    refine lv_if_ne (tgt := 23) hx hb dX4_isWhole_16 (by decide) (fun c_2 => ?_) (fun c_2 => ?_)
    · replace hf := ite_f c_2 hf
      refine lv_iconst (v := (0 : Int32)) hx hb dX4_isWhole_23 (by decide) ?_
      exact eZ X hR hS (by decide) (Option.some.inj hf) rfl dX4_isWhole_24
    · replace hf := ite_t c_2 hf
      refine lv_iconst (v := (1 : Int32)) hx hb dX4_isWhole_19 (by decide) ?_
      refine lv_goto (tgt := 24) hx hb dX4_isWhole_20 (by decide) ?_
      exact eZ X hR hS (by decide) (Option.some.inj hf) rfl dX4_isWhole_24
theorem zcX4_isWhole (l : Launch) (D : va_G) (cy : Nat → ClassId) (ad : Nat → Nat) (ba : Nat → Prop) (O : Int64) (S : teS) (res : Int32) (hf : fX4_isWhole S = some res) : cI l yX4_isWhole wsX4_isWhole rmX4_isWhole D cy ad ba O S [.ref (ad 361)] res S :=
  te_of (by decide +kernel) rfl (Nat.le_of_ble_eq_true rfl) (fun p e s m below meth c ls X hR hS hl => bX4_isWhole_0 (S := S)  X _ _ _ hR hS hl hf)
abbrev rmX4_firstError : Room := { frames := 1, cells := 0, slots := 0, locals := 24 }
theorem kdX4_firstError : yX4_firstError.cls = RX4 ∧ yX4_firstError.cls ≠ "java/lang/invoke/MethodHandle" ∧ yX4_firstError.cls ≠ "java/lang/invoke/VarHandle" ∧ (parseMethodDescriptor yX4_firstError.desc).map (fun d => d.parameters.length) = some 0 := by decide +kernel
theorem wX4_firstError_15 : Cond.fieldLink RX4 15 "TandemExchange$Text" "length" "I" ∈ wsX4_firstError := by decide +kernel
theorem iX4_firstError_4 : ∀ w ∈ wsX40, w ∈ wsX4_firstError := fun _ h => List.mem_cons_of_mem _ (List.mem_append_right _ h)
theorem wX4_firstError_9 : Cond.fieldLink RX4 9 "TandemExchange$Text" "characters" "[C" ∈ wsX4_firstError := by decide +kernel
set_option maxRecDepth 100000 in
set_option maxHeartbeats 4000000 in
theorem bX4_firstError_2 {p : Program} {l : Launch} {e : Env} {s : State} {m : MethodId} {args : Array Value} {below : List Frame} {meth : Method} {c : Code} {D : va_G} {cy : Nat → ClassId} {ad : Nat → Nat} {ba : Nat → Prop} {O : Int64} {S : teS}  {res : Int32} (X : teC wsX4_firstError RX4 cX4_firstError 2 (some .int) D cy ba p s m args meth c) : ∀ (n : Nat), ∀  (v1 : Int32) (H : Heap) (locs : List Loc) (ls : Array Slot), teR D cy ad ba O S H → va_S (teA ba) s.heap H locs → lv_has ls 2 [(0, .ref (ad 361)), (1, .int v1)] → fX4_firstError_2 n S v1 = some res → W p l e (headSpec wsX4_firstError rmX4_firstError).room s m args below meth c H locs 0 0 (MQ below (va_Qi (fun a (u : teS) => a = res ∧ u = S) (fun u t => teR D cy ad ba O u t.heap) (teA ba)) args s 0 0 (teA ba)) (F0 m 2 ls []) := by
  have hx := X.1
  have hb := X.2.1
  have hown := X.2.2.2.2.1
  intro n
  induction n with
  | zero =>
    intro v1 H locs ls hR hS hl hf
    exact nomatch hf
  | succ n ih =>
    intro v1 H locs ls hR hS hl hf
    unfold fX4_firstError_2 at hf
    refine lv_iload_n hx hb dX4_firstError_2 rfl (lv_at hl 1 rfl) ?_
    refine lv_aload_n hx hb dX4_firstError_3 rfl (lv_at hl 0 rfl) ?_
    refine rg_4_1 X hR iX4_firstError_4 wX4_firstError_15 dX4_firstError_4 ?_
    refine lv_icmp_ge (tgt := 32) hx hb dX4_firstError_7 (by decide) (fun c_1 => ?_) (fun c_1 => ?_)
    · replace hf := ite_t c_1 hf
      refine lv_aload_n hx hb dX4_firstError_32 rfl (lv_at hl 0 rfl) ?_
      obtain ⟨r_2, hq_3, hf⟩ := bd1_some hf
      refine kVi (id := 361) (As := []) (rest := []) X hR hS (zcX4_isWhole l D cy ad ba O S _ hq_3) (cwV 0 X.2.2.2.2.2.1 gX4_firstError_X4_isWhole rfl rfl rfl kdX4_isWhole ⟨(Nat.le_of_ble_eq_true rfl), (Nat.le_of_ble_eq_true rfl)⟩) (by decide) rfl rfl rfl rfl hl.1 (Nat.le_of_ble_eq_true rfl) ⟨(Nat.le_of_ble_eq_true rfl), (Nat.le_of_ble_eq_true rfl)⟩ dX4_firstError_33 (fun H locs hR hS => ?_)
      refine lv_if_eq (tgt := 45) hx hb dX4_firstError_36 (by decide) (fun c_4 => ?_) (fun c_4 => ?_)
      · replace hf := ite_t c_4 hf
        refine lv_aload_n hx hb dX4_firstError_45 rfl (lv_at hl 0 rfl) ?_
        refine rg_4_1 X hR iX4_firstError_4 wX4_firstError_15 dX4_firstError_46 ?_
        exact eI X hR hS (Option.some.inj hf) rfl dX4_firstError_49
      · replace hf := ite_f c_4 hf
        refine lv_sipush (v := (-9999 : Int32)) hx hb dX4_firstError_39 (by decide) ?_
        refine lv_goto (tgt := 49) hx hb dX4_firstError_42 (by decide) ?_
        exact eI X hR hS (Option.some.inj hf) rfl dX4_firstError_49
    · replace hf := ite_f c_1 hf
      refine lv_aload_n hx hb dX4_firstError_10 rfl (lv_at hl 0 rfl) ?_
      refine lv_iload_n hx hb dX4_firstError_11 rfl (lv_at hl 1 rfl) ?_
      refine lv_aload_n hx hb dX4_firstError_12 rfl (lv_at hl 0 rfl) ?_
      refine rg_4_0 X hR iX4_firstError_4 wX4_firstError_9 dX4_firstError_13 ?_
      refine lv_iload_n hx hb dX4_firstError_16 rfl (lv_at hl 1 rfl) ?_
      obtain ⟨h_5, hf⟩ := chk_some hf
      refine ra_chr X hR h_5 dX4_firstError_17 ?_
      obtain ⟨r_6, hq_7, hf⟩ := bd1_some hf
      refine kVi (id := 361) (As := [.int v1, .int (S 362 v1.toNatClampNeg)]) (rest := []) X hR hS (zcX4_allows l D cy ad ba O S v1 (S 362 v1.toNatClampNeg) _ hq_7) (cwV 2 X.2.2.2.2.2.1 gX4_firstError_X4_allows rfl rfl rfl kdX4_allows ⟨(Nat.le_of_ble_eq_true rfl), (Nat.le_of_ble_eq_true rfl)⟩) (by decide) rfl rfl rfl rfl hl.1 (Nat.le_of_ble_eq_true rfl) ⟨(Nat.le_of_ble_eq_true rfl), (Nat.le_of_ble_eq_true rfl)⟩ dX4_firstError_18 (fun H locs hR hS => ?_)
      refine lv_if_ne (tgt := 26) hx hb dX4_firstError_21 (by decide) (fun c_8 => ?_) (fun c_8 => ?_)
      · replace hf := ite_f c_8 hf
        refine lv_iinc (v := (v1 + (1 : Int32))) (lv' := [(1, .int (v1 + (1 : Int32))), (0, .ref (ad 361))]) hx hb dX4_firstError_26 hl (k := 1) rfl rfl (by decide) rfl (fun ls hl => ?_)
        refine lv_goto (tgt := 2) hx hb dX4_firstError_29 (by decide) ?_
        exact ih ((v1 + (1 : Int32))) _ _ _ hR hS (lv_sub hl [1, 0] rfl) hf
      · replace hf := ite_t c_8 hf
        refine lv_iload_n hx hb dX4_firstError_24 rfl (lv_at hl 1 rfl) ?_
        exact eI X hR hS (Option.some.inj hf) rfl dX4_firstError_25
set_option maxRecDepth 100000 in
set_option maxHeartbeats 4000000 in
theorem bX4_firstError_0 {p : Program} {l : Launch} {e : Env} {s : State} {m : MethodId} {args : Array Value} {below : List Frame} {meth : Method} {c : Code} {D : va_G} {cy : Nat → ClassId} {ad : Nat → Nat} {ba : Nat → Prop} {O : Int64} {S : teS}  {res : Int32} (X : teC wsX4_firstError RX4 cX4_firstError 2 (some .int) D cy ba p s m args meth c) (H : Heap) (locs : List Loc) (ls : Array Slot) (hR : teR D cy ad ba O S H) (hS : va_S (teA ba) s.heap H locs) (hl : lv_has ls 2 [(0, .ref (ad 361))]) (hf : fX4_firstError S = some res) : W p l e (headSpec wsX4_firstError rmX4_firstError).room s m args below meth c H locs 0 0 (MQ below (va_Qi (fun a (u : teS) => a = res ∧ u = S) (fun u t => teR D cy ad ba O u t.heap) (teA ba)) args s 0 0 (teA ba)) (F0 m 0 ls []) := by
  have hx := X.1
  have hb := X.2.1
  have hown := X.2.2.2.2.1
  unfold fX4_firstError at hf
  refine lv_iconst (v := (0 : Int32)) hx hb dX4_firstError_0 (by decide) ?_
  refine lv_istore_n (lv' := [(1, .int (0 : Int32)), (0, .ref (ad 361))]) hx hb dX4_firstError_1 rfl hl (by decide) rfl (fun ls hl => ?_)
  exact bX4_firstError_2 (S := S)  X 2000 ((0 : Int32)) _ _ _ hR hS (lv_sub hl [1, 0] rfl) hf
theorem zcX4_firstError (l : Launch) (D : va_G) (cy : Nat → ClassId) (ad : Nat → Nat) (ba : Nat → Prop) (O : Int64) (S : teS) (res : Int32) (hf : fX4_firstError S = some res) : cI l yX4_firstError wsX4_firstError rmX4_firstError D cy ad ba O S [.ref (ad 361)] res S :=
  te_of (by decide +kernel) rfl (Nat.le_of_ble_eq_true rfl) (fun p e s m below meth c ls X hR hS hl => bX4_firstError_0 (S := S)  X _ _ _ hR hS hl hf)
abbrev rmX4_number : Room := { frames := 0, cells := 0, slots := 0, locals := 0 }
theorem kdX4_number : yX4_number.cls = RX4 ∧ yX4_number.cls ≠ "java/lang/invoke/MethodHandle" ∧ yX4_number.cls ≠ "java/lang/invoke/VarHandle" ∧ (parseMethodDescriptor yX4_number.desc).map (fun d => d.parameters.length) = some 2 := by decide +kernel
theorem wX4_number_15 : Cond.fieldLink RX4 15 "TandemExchange$Text" "length" "I" ∈ wsX4_number := by decide +kernel
theorem iX4_number_4 : ∀ w ∈ wsX40, w ∈ wsX4_number := fun _ h => List.mem_cons_of_mem _ (List.mem_append_right _ h)
theorem wX4_number_9 : Cond.fieldLink RX4 9 "TandemExchange$Text" "characters" "[C" ∈ wsX4_number := by decide +kernel
set_option maxRecDepth 100000 in
set_option maxHeartbeats 4000000 in
theorem bX4_number_5 {p : Program} {l : Launch} {e : Env} {s : State} {m : MethodId} {args : Array Value} {below : List Frame} {meth : Method} {c : Code} {D : va_G} {cy : Nat → ClassId} {ad : Nat → Nat} {ba : Nat → Prop} {O : Int64} {S : teS}  {x1 : Int32} {x2 : Int32} {res : Int32} (X : teC wsX4_number RX4 cX4_number 5 (some .int) D cy ba p s m args meth c) : ∀ (n : Nat), ∀  (v3 : Int32) (v4 : Int32) (H : Heap) (locs : List Loc) (ls : Array Slot), teR D cy ad ba O S H → va_S (teA ba) s.heap H locs → lv_has ls 5 [(0, .ref (ad 361)), (1, .int x1), (2, .int x2), (3, .int v3), (4, .int v4)] → fX4_number_5 x1 x2 n S v3 v4 = some res → W p l e (headSpec wsX4_number rmX4_number).room s m args below meth c H locs 0 0 (MQ below (va_Qi (fun a (u : teS) => a = res ∧ u = S) (fun u t => teR D cy ad ba O u t.heap) (teA ba)) args s 0 0 (teA ba)) (F0 m 5 ls []) := by
  have hx := X.1
  have hb := X.2.1
  have hown := X.2.2.2.2.1
  intro n
  induction n with
  | zero =>
    intro v3 v4 H locs ls hR hS hl hf
    exact nomatch hf
  | succ n ih =>
    intro v3 v4 H locs ls hR hS hl hf
    unfold fX4_number_5 at hf
    refine lv_iload hx hb dX4_number_5 (lv_at hl 4 rfl) ?_
    refine lv_iload_n hx hb dX4_number_7 rfl (lv_at hl 1 rfl) ?_
    refine lv_iload_n hx hb dX4_number_8 rfl (lv_at hl 2 rfl) ?_
    refine lv_iadd hx hb dX4_number_9 ?_
    refine lv_icmp_ge (tgt := 44) hx hb dX4_number_10 (by decide) (fun c_1 => ?_) (fun c_1 => ?_)
    · replace hf := ite_t c_1 hf
      refine lv_iload_n hx hb dX4_number_44 rfl (lv_at hl 3 rfl) ?_
      exact eI X hR hS (Option.some.inj hf) rfl dX4_number_45
    · replace hf := ite_f c_1 hf
      refine lv_iload hx hb dX4_number_13 (lv_at hl 4 rfl) ?_
      refine lv_aload_n hx hb dX4_number_15 rfl (lv_at hl 0 rfl) ?_
      refine rg_4_1 X hR iX4_number_4 wX4_number_15 dX4_number_16 ?_
      refine lv_icmp_ge (tgt := 44) hx hb dX4_number_19 (by decide) (fun c_2 => ?_) (fun c_2 => ?_)
      · replace hf := ite_t c_2 hf
        refine lv_iload_n hx hb dX4_number_44 rfl (lv_at hl 3 rfl) ?_
        exact eI X hR hS (Option.some.inj hf) rfl dX4_number_45
      · replace hf := ite_f c_2 hf
        refine lv_bipush (v := (10 : Int32)) hx hb dX4_number_22 (by decide) ?_
        refine lv_iload_n hx hb dX4_number_24 rfl (lv_at hl 3 rfl) ?_
        refine lv_imul hx hb dX4_number_25 ?_
        refine lv_aload_n hx hb dX4_number_26 rfl (lv_at hl 0 rfl) ?_
        refine rg_4_0 X hR iX4_number_4 wX4_number_9 dX4_number_27 ?_
        refine lv_iload hx hb dX4_number_30 (lv_at hl 4 rfl) ?_
        obtain ⟨h_3, hf⟩ := chk_some hf
        refine ra_chr X hR h_3 dX4_number_32 ?_
        refine lv_iadd hx hb dX4_number_33 ?_
        refine lv_bipush (v := (48 : Int32)) hx hb dX4_number_34 (by decide) ?_
        refine lv_isub hx hb dX4_number_36 ?_
        refine lv_istore_n (lv' := [(3, .int ((((10 : Int32) * v3) + (S 362 v4.toNatClampNeg)) - (48 : Int32))), (0, .ref (ad 361)), (1, .int x1), (2, .int x2), (4, .int v4)]) hx hb dX4_number_37 rfl hl (by decide) rfl (fun ls hl => ?_)
        refine lv_iinc (v := (v4 + (1 : Int32))) (lv' := [(4, .int (v4 + (1 : Int32))), (3, .int ((((10 : Int32) * v3) + (S 362 v4.toNatClampNeg)) - (48 : Int32))), (0, .ref (ad 361)), (1, .int x1), (2, .int x2)]) hx hb dX4_number_38 hl (k := 4) rfl rfl (by decide) rfl (fun ls hl => ?_)
        refine lv_goto (tgt := 5) hx hb dX4_number_41 (by decide) ?_
        exact ih (((((10 : Int32) * v3) + (S 362 v4.toNatClampNeg)) - (48 : Int32))) ((v4 + (1 : Int32))) _ _ _ hR hS (lv_sub hl [2, 3, 4, 1, 0] rfl) hf
set_option maxRecDepth 100000 in
set_option maxHeartbeats 4000000 in
theorem bX4_number_0 {p : Program} {l : Launch} {e : Env} {s : State} {m : MethodId} {args : Array Value} {below : List Frame} {meth : Method} {c : Code} {D : va_G} {cy : Nat → ClassId} {ad : Nat → Nat} {ba : Nat → Prop} {O : Int64} {S : teS}  {x1 : Int32} {x2 : Int32} {res : Int32} (X : teC wsX4_number RX4 cX4_number 5 (some .int) D cy ba p s m args meth c) (H : Heap) (locs : List Loc) (ls : Array Slot) (hR : teR D cy ad ba O S H) (hS : va_S (teA ba) s.heap H locs) (hl : lv_has ls 5 [(0, .ref (ad 361)), (1, .int x1), (2, .int x2)]) (hf : fX4_number x1 x2 S = some res) : W p l e (headSpec wsX4_number rmX4_number).room s m args below meth c H locs 0 0 (MQ below (va_Qi (fun a (u : teS) => a = res ∧ u = S) (fun u t => teR D cy ad ba O u t.heap) (teA ba)) args s 0 0 (teA ba)) (F0 m 0 ls []) := by
  have hx := X.1
  have hb := X.2.1
  have hown := X.2.2.2.2.1
  unfold fX4_number at hf
  refine lv_iconst (v := (0 : Int32)) hx hb dX4_number_0 (by decide) ?_
  refine lv_istore_n (lv' := [(3, .int (0 : Int32)), (0, .ref (ad 361)), (1, .int x1), (2, .int x2)]) hx hb dX4_number_1 rfl hl (by decide) rfl (fun ls hl => ?_)
  refine lv_iload_n hx hb dX4_number_2 rfl (lv_at hl 2 rfl) ?_
  refine lv_istore (lv' := [(4, .int x1), (3, .int (0 : Int32)), (0, .ref (ad 361)), (1, .int x1), (2, .int x2)]) hx hb dX4_number_3 hl (by decide) rfl (fun ls hl => ?_)
  exact bX4_number_5 (S := S) (x1 := x1) (x2 := x2) X 2000 ((0 : Int32)) (x1) _ _ _ hR hS (lv_sub hl [2, 3, 4, 1, 0] rfl) hf
theorem zcX4_number (l : Launch) (D : va_G) (cy : Nat → ClassId) (ad : Nat → Nat) (ba : Nat → Prop) (O : Int64) (S : teS) (x1 : Int32) (x2 : Int32) (res : Int32) (hf : fX4_number x1 x2 S = some res) : cI l yX4_number wsX4_number rmX4_number D cy ad ba O S [.ref (ad 361), .int x1, .int x2] res S :=
  te_of (by decide +kernel) rfl (Nat.le_of_ble_eq_true rfl) (fun p e s m below meth c ls X hR hS hl => bX4_number_0 (S := S) (x1 := x1) (x2 := x2) X _ _ _ hR hS hl hf)
abbrev rmX4_readInto : Room := { frames := 2, cells := 0, slots := 0, locals := 48 }
theorem kdX4_readInto : yX4_readInto.cls = RX4 ∧ yX4_readInto.cls ≠ "java/lang/invoke/MethodHandle" ∧ yX4_readInto.cls ≠ "java/lang/invoke/VarHandle" ∧ (parseMethodDescriptor yX4_readInto.desc).map (fun d => d.parameters.length) = some 1 := by decide +kernel
theorem wX4_readInto_27 : Cond.fieldLink RX4 27 "TandemExchange$Circle" "size" "I" ∈ wsX4_readInto := by decide +kernel
theorem iX4_readInto_1 : ∀ w ∈ wsX10, w ∈ wsX4_readInto := by decide +kernel
theorem wX4_readInto_32 : Cond.fieldLink RX4 32 "TandemExchange$Circle" "weeks" "I" ∈ wsX4_readInto := by decide +kernel
theorem wX4_readInto_15 : Cond.fieldLink RX4 15 "TandemExchange$Text" "length" "I" ∈ wsX4_readInto := by decide +kernel
theorem iX4_readInto_4 : ∀ w ∈ wsX40, w ∈ wsX4_readInto := by decide +kernel
set_option maxRecDepth 100000 in
set_option maxHeartbeats 4000000 in
theorem bX4_readInto_12 {p : Program} {l : Launch} {e : Env} {s : State} {m : MethodId} {args : Array Value} {below : List Frame} {meth : Method} {c : Code} {D : va_G} {cy : Nat → ClassId} {ad : Nat → Nat} {ba : Nat → Prop} {O : Int64} {S : teS}  {k1 : Nat} {res : teS} (hk1 : k1 < 18) (X : teC wsX4_readInto RX4 cX4_readInto 3 none D cy ba p s m args meth c) : ∀ (n : Nat), ∀ (S1 : teS) (v2 : Int32) (H : Heap) (locs : List Loc) (ls : Array Slot), teR D cy ad ba O S1 H → va_S (teA ba) s.heap H locs → lv_has ls 3 [(0, .ref (ad 361)), (1, .ref (ad (20 * k1))), (2, .int v2)] → fX4_readInto_12 k1 n S1 v2 = some res → W p l e (headSpec wsX4_readInto rmX4_readInto).room s m args below meth c H locs 0 0 (MQ below (va_Qv (fun (u : teS) => u = res) (fun u t => teR D cy ad ba O u t.heap) (teA ba)) args s 0 0 (teA ba)) (F0 m 12 ls []) := by
  have hx := X.1
  have hb := X.2.1
  have hown := X.2.2.2.2.1
  intro n
  induction n with
  | zero =>
    intro S1 v2 H locs ls hR hS hl hf
    exact nomatch hf
  | succ n ih =>
    intro S1 v2 H locs ls hR hS hl hf
    unfold fX4_readInto_12 at hf
    refine lv_iload_n hx hb dX4_readInto_12 rfl (lv_at hl 2 rfl) ?_
    refine lv_bipush (v := (8 : Int32)) hx hb dX4_readInto_13 (by decide) ?_
    refine lv_iadd hx hb dX4_readInto_15 ?_
    refine lv_aload_n hx hb dX4_readInto_16 rfl (lv_at hl 0 rfl) ?_
    refine rg_4_1 X hR iX4_readInto_4 wX4_readInto_15 dX4_readInto_17 ?_
    refine lv_icmp_gt (tgt := 58) hx hb dX4_readInto_20 (by decide) (fun c_1 => ?_) (fun c_1 => ?_)
    · replace hf := ite_t c_1 hf
      exact eV X hR hS (Option.some.inj hf) dX4_readInto_58
    · replace hf := ite_f c_1 hf
      refine lv_aload_n hx hb dX4_readInto_23 rfl (lv_at hl 1 rfl) ?_
      refine lv_aload_n hx hb dX4_readInto_24 rfl (lv_at hl 0 rfl) ?_
      refine lv_iload_n hx hb dX4_readInto_25 rfl (lv_at hl 2 rfl) ?_
      refine lv_iconst (v := (1 : Int32)) hx hb dX4_readInto_26 (by decide) ?_
      refine lv_iadd hx hb dX4_readInto_27 ?_
      refine lv_iconst (v := (1 : Int32)) hx hb dX4_readInto_28 (by decide) ?_
      obtain ⟨r_2, hq_3, hf⟩ := bd1_some hf
      refine kVi (id := 361) (As := [.int (v2 + (1 : Int32)), .int (1 : Int32)]) (rest := [.ref (ad (20 * k1))]) X hR hS (zcX4_number l D cy ad ba O S1 (v2 + (1 : Int32)) (1 : Int32) _ hq_3) (cwV 2 X.2.2.2.2.2.1 gX4_readInto_X4_number rfl rfl rfl kdX4_number ⟨(Nat.le_of_ble_eq_true rfl), (Nat.le_of_ble_eq_true rfl)⟩) (by decide) rfl rfl rfl rfl hl.1 (Nat.le_of_ble_eq_true rfl) ⟨(Nat.le_of_ble_eq_true rfl), (Nat.le_of_ble_eq_true rfl)⟩ dX4_readInto_29 (fun H locs hR hS => ?_)
      refine lv_aload_n hx hb dX4_readInto_32 rfl (lv_at hl 0 rfl) ?_
      refine lv_iload_n hx hb dX4_readInto_33 rfl (lv_at hl 2 rfl) ?_
      refine lv_iconst (v := (2 : Int32)) hx hb dX4_readInto_34 (by decide) ?_
      refine lv_iadd hx hb dX4_readInto_35 ?_
      refine lv_iconst (v := (4 : Int32)) hx hb dX4_readInto_36 (by decide) ?_
      obtain ⟨r_4, hq_5, hf⟩ := bd1_some hf
      refine kVi (id := 361) (As := [.int (v2 + (2 : Int32)), .int (4 : Int32)]) (rest := [.int r_2, .ref (ad (20 * k1))]) X hR hS (zcX4_number l D cy ad ba O S1 (v2 + (2 : Int32)) (4 : Int32) _ hq_5) (cwV 2 X.2.2.2.2.2.1 gX4_readInto_X4_number rfl rfl rfl kdX4_number ⟨(Nat.le_of_ble_eq_true rfl), (Nat.le_of_ble_eq_true rfl)⟩) (by decide) rfl rfl rfl rfl hl.1 (Nat.le_of_ble_eq_true rfl) ⟨(Nat.le_of_ble_eq_true rfl), (Nat.le_of_ble_eq_true rfl)⟩ dX4_readInto_37 (fun H locs hR hS => ?_)
      refine lv_aload_n hx hb dX4_readInto_40 rfl (lv_at hl 0 rfl) ?_
      refine lv_iload_n hx hb dX4_readInto_41 rfl (lv_at hl 2 rfl) ?_
      refine lv_bipush (v := (6 : Int32)) hx hb dX4_readInto_42 (by decide) ?_
      refine lv_iadd hx hb dX4_readInto_44 ?_
      refine lv_iconst (v := (2 : Int32)) hx hb dX4_readInto_45 (by decide) ?_
      obtain ⟨r_6, hq_7, hf⟩ := bd1_some hf
      refine kVi (id := 361) (As := [.int (v2 + (6 : Int32)), .int (2 : Int32)]) (rest := [.int r_4, .int r_2, .ref (ad (20 * k1))]) X hR hS (zcX4_number l D cy ad ba O S1 (v2 + (6 : Int32)) (2 : Int32) _ hq_7) (cwV 2 X.2.2.2.2.2.1 gX4_readInto_X4_number rfl rfl rfl kdX4_number ⟨(Nat.le_of_ble_eq_true rfl), (Nat.le_of_ble_eq_true rfl)⟩) (by decide) rfl rfl rfl rfl hl.1 (Nat.le_of_ble_eq_true rfl) ⟨(Nat.le_of_ble_eq_true rfl), (Nat.le_of_ble_eq_true rfl)⟩ dX4_readInto_46 (fun H locs hR hS => ?_)
      obtain ⟨S2, hq_9, hf⟩ := bd1_some hf
      refine kVv (id := (20 * k1)) (As := [.int r_2, .int r_4, .int r_6]) (rest := []) X hR hS (zcX1_add l D cy ad ba O S1 k1 r_2 r_4 r_6 hk1 _ hq_9) (cwV 3 X.2.2.2.2.2.1 gX4_readInto_X1_add rfl rfl rfl kdX1_add ⟨(Nat.le_of_ble_eq_true rfl), (Nat.le_of_ble_eq_true rfl)⟩) (te_idc hk1) (teE_circ cy ad O S1 hk1) rfl rfl rfl hl.1 (Nat.le_of_ble_eq_true rfl) ⟨(Nat.le_of_ble_eq_true rfl), (Nat.le_of_ble_eq_true rfl)⟩ dX4_readInto_49 (fun H locs hR hS => ?_)
      refine lv_iinc (v := (v2 + (8 : Int32))) (lv' := [(2, .int (v2 + (8 : Int32))), (0, .ref (ad 361)), (1, .ref (ad (20 * k1)))]) hx hb dX4_readInto_52 hl (k := 2) rfl rfl (by decide) rfl (fun ls hl => ?_)
      refine lv_goto (tgt := 12) hx hb dX4_readInto_55 (by decide) ?_
      exact ih S2 ((v2 + (8 : Int32))) _ _ _ hR hS (lv_sub hl [1, 2, 0] rfl) hf
set_option maxRecDepth 100000 in
set_option maxHeartbeats 4000000 in
theorem bX4_readInto_0 {p : Program} {l : Launch} {e : Env} {s : State} {m : MethodId} {args : Array Value} {below : List Frame} {meth : Method} {c : Code} {D : va_G} {cy : Nat → ClassId} {ad : Nat → Nat} {ba : Nat → Prop} {O : Int64} {S : teS}  {k1 : Nat} {res : teS} (hk1 : k1 < 18) (X : teC wsX4_readInto RX4 cX4_readInto 3 none D cy ba p s m args meth c) (H : Heap) (locs : List Loc) (ls : Array Slot) (hR : teR D cy ad ba O S H) (hS : va_S (teA ba) s.heap H locs) (hl : lv_has ls 3 [(0, .ref (ad 361)), (1, .ref (ad (20 * k1)))]) (hf : fX4_readInto k1 S = some res) : W p l e (headSpec wsX4_readInto rmX4_readInto).room s m args below meth c H locs 0 0 (MQ below (va_Qv (fun (u : teS) => u = res) (fun u t => teR D cy ad ba O u t.heap) (teA ba)) args s 0 0 (teA ba)) (F0 m 0 ls []) := by
  have hx := X.1
  have hb := X.2.1
  have hown := X.2.2.2.2.1
  unfold fX4_readInto at hf
  refine lv_aload_n hx hb dX4_readInto_0 rfl (lv_at hl 1 rfl) ?_
  refine lv_iconst (v := (0 : Int32)) hx hb dX4_readInto_1 (by decide) ?_
  refine rp_1_1 X hR hS hk1 iX4_readInto_1 wX4_readInto_27 dX4_readInto_2 (fun H locs hR hS => ?_)
  generalize teu S k1 0 (0 : Int32) = S1 at hf hR
  replace hf := lt1_e hf
  refine lv_aload_n hx hb dX4_readInto_5 rfl (lv_at hl 1 rfl) ?_
  refine lv_iconst (v := (0 : Int32)) hx hb dX4_readInto_6 (by decide) ?_
  refine rp_1_2 X hR hS hk1 iX4_readInto_1 wX4_readInto_32 dX4_readInto_7 (fun H locs hR hS => ?_)
  generalize teu S1 k1 1 (0 : Int32) = S2 at hf hR
  replace hf := lt1_e hf
  refine lv_iconst (v := (1 : Int32)) hx hb dX4_readInto_10 (by decide) ?_
  refine lv_istore_n (lv' := [(2, .int (1 : Int32)), (0, .ref (ad 361)), (1, .ref (ad (20 * k1)))]) hx hb dX4_readInto_11 rfl hl (by decide) rfl (fun ls hl => ?_)
  exact bX4_readInto_12 (S := S) (k1 := k1) hk1 X 2000 S2 ((1 : Int32)) _ _ _ hR hS (lv_sub hl [1, 2, 0] rfl) hf
theorem zcX4_readInto (l : Launch) (D : va_G) (cy : Nat → ClassId) (ad : Nat → Nat) (ba : Nat → Prop) (O : Int64) (S : teS) (k1 : Nat) (hk1 : k1 < 18) (res : teS) (hf : fX4_readInto k1 S = some res) : cV l yX4_readInto wsX4_readInto rmX4_readInto D cy ad ba O S [.ref (ad 361), .ref (ad (20 * k1))] res :=
  te_of (by decide +kernel) rfl (Nat.le_of_ble_eq_true rfl) (fun p e s m below meth c ls X hR hS hl => bX4_readInto_0 (S := S) (k1 := k1) hk1 X _ _ _ hR hS hl hf)
