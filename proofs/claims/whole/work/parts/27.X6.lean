abbrev rmX6_thrown : Room := { frames := 0, cells := 0, slots := 0, locals := 0 }
theorem kdX6_thrown : yX6_thrown.cls = RX6 ∧ yX6_thrown.cls ≠ "java/lang/invoke/MethodHandle" ∧ yX6_thrown.cls ≠ "java/lang/invoke/VarHandle" ∧ (parseMethodDescriptor yX6_thrown.desc).map (fun d => d.parameters.length) = some 0 := by decide +kernel
theorem wX6_thrown_38 : Cond.fieldLink RX6 38 "TandemExchangeModel" "refusal" "I" ∈ wsX6_thrown := by decide +kernel
theorem iX6_thrown_6 : ∀ w ∈ wsX60, w ∈ wsX6_thrown := fun _ h => List.mem_cons_of_mem _ (List.mem_append_right _ h)
set_option maxRecDepth 100000 in
set_option maxHeartbeats 4000000 in
theorem bX6_thrown_0 {p : Program} {l : Launch} {e : Env} {s : State} {m : MethodId} {args : Array Value} {below : List Frame} {meth : Method} {c : Code} {D : va_G} {cy : Nat → ClassId} {ad : Nat → Nat} {ba : Nat} {O : Int64} {S : teS}  {res : Int32} (X : teC wsX6_thrown RX6 cX6_thrown 1 (some .int) D cy ba p s m args meth c) (H : Heap) (locs : List Loc) (ls : Array Slot) (hR : teR D cy ad ba O S H) (hS : va_S (teA ba) s.heap H locs) (hl : lv_has ls 1 [(0, .ref (ad 369))]) (hf : fX6_thrown S = some res) : W p l e (headSpec wsX6_thrown rmX6_thrown).room s m args below meth c H locs 0 0 (MQ below (va_Qi (fun a (u : teS) => a = res ∧ u = S) (fun u t => teR D cy ad ba O u t.heap) (teA ba)) args s 0 0 (teA ba)) (F0 m 0 ls []) := by
  have hx := X.1
  have hb := X.2.1
  have hown := X.2.2.2.2.1
  unfold fX6_thrown at hf
  refine lv_aload_n hx hb dX6_thrown_0 rfl (lv_at hl 0 rfl) ?_
  refine rg_6_0 X hR iX6_thrown_6 wX6_thrown_38 dX6_thrown_1 ?_
  exact eI X hR hS (Option.some.inj hf) rfl dX6_thrown_4
theorem zcX6_thrown (l : Launch) (D : va_G) (cy : Nat → ClassId) (ad : Nat → Nat) (ba : Nat) (O : Int64) (S : teS) (res : Int32) (hf : fX6_thrown S = some res) : cI l yX6_thrown wsX6_thrown rmX6_thrown D cy ad ba O S [.ref (ad 369)] res S :=
  te_of (by decide +kernel) rfl (Nat.le_of_ble_eq_true rfl) (fun p e s m below meth c ls X hR hS hl => bX6_thrown_0 (S := S)  X _ _ _ hR hS hl hf)
abbrev rmX6_refused : Room := { frames := 0, cells := 0, slots := 0, locals := 0 }
theorem kdX6_refused : yX6_refused.cls = RX6 ∧ yX6_refused.cls ≠ "java/lang/invoke/MethodHandle" ∧ yX6_refused.cls ≠ "java/lang/invoke/VarHandle" ∧ (parseMethodDescriptor yX6_refused.desc).map (fun d => d.parameters.length) = some 1 := by decide +kernel
theorem wX6_refused_38 : Cond.fieldLink RX6 38 "TandemExchangeModel" "refusal" "I" ∈ wsX6_refused := by decide +kernel
theorem iX6_refused_6 : ∀ w ∈ wsX60, w ∈ wsX6_refused := fun _ h => List.mem_cons_of_mem _ (List.mem_append_right _ h)
set_option maxRecDepth 100000 in
set_option maxHeartbeats 4000000 in
theorem bX6_refused_0 {p : Program} {l : Launch} {e : Env} {s : State} {m : MethodId} {args : Array Value} {below : List Frame} {meth : Method} {c : Code} {D : va_G} {cy : Nat → ClassId} {ad : Nat → Nat} {ba : Nat} {O : Int64} {S : teS}  {x1 : Int32} {res : (Int32 × teS)} (X : teC wsX6_refused RX6 cX6_refused 2 (some .boolean) D cy ba p s m args meth c) (H : Heap) (locs : List Loc) (ls : Array Slot) (hR : teR D cy ad ba O S H) (hS : va_S (teA ba) s.heap H locs) (hl : lv_has ls 2 [(0, .ref (ad 369)), (1, .int x1)]) (hf : fX6_refused x1 S = some res) : W p l e (headSpec wsX6_refused rmX6_refused).room s m args below meth c H locs 0 0 (MQ below (va_Qi (fun a (u : teS) => a = res.1 ∧ u = res.2) (fun u t => teR D cy ad ba O u t.heap) (teA ba)) args s 0 0 (teA ba)) (F0 m 0 ls []) := by
  have hx := X.1
  have hb := X.2.1
  have hown := X.2.2.2.2.1
  unfold fX6_refused at hf
  refine lv_aload_n hx hb dX6_refused_0 rfl (lv_at hl 0 rfl) ?_
  refine lv_iload_n hx hb dX6_refused_1 rfl (lv_at hl 1 rfl) ?_
  refine rp_6_0 X hR hS iX6_refused_6 wX6_refused_38 dX6_refused_2 (fun H locs hR hS => ?_)
  generalize teu S 369 0 x1 = S1 at hf hR
  replace hf := lt1_e hf
  refine lv_iload_n hx hb dX6_refused_5 rfl (lv_at hl 1 rfl) ?_
  refine lv_if_le (tgt := 13) hx hb dX6_refused_6 (by decide) (fun c_1 => ?_) (fun c_1 => ?_)
  · replace hf := ite_t c_1 hf
    refine lv_iconst (v := (0 : Int32)) hx hb dX6_refused_13 (by decide) ?_
    exact eZ X hR hS (by decide) (congrArg Prod.fst (Option.some.inj hf)) (congrArg Prod.snd (Option.some.inj hf)) dX6_refused_14
  · replace hf := ite_f c_1 hf
    refine lv_iconst (v := (1 : Int32)) hx hb dX6_refused_9 (by decide) ?_
    refine lv_goto (tgt := 14) hx hb dX6_refused_10 (by decide) ?_
    exact eZ X hR hS (by decide) (congrArg Prod.fst (Option.some.inj hf)) (congrArg Prod.snd (Option.some.inj hf)) dX6_refused_14
theorem zcX6_refused (l : Launch) (D : va_G) (cy : Nat → ClassId) (ad : Nat → Nat) (ba : Nat) (O : Int64) (S : teS) (x1 : Int32) (r : Int32) (S1 : teS) (hf : fX6_refused x1 S = some (r, S1)) : cI l yX6_refused wsX6_refused rmX6_refused D cy ad ba O S [.ref (ad 369), .int x1] r S1 :=
  te_of (by decide) rfl (Nat.le_of_ble_eq_true rfl) (fun p e s m below meth c ls X hR hS hl => bX6_refused_0 (res := (r, S1)) (S := S) (x1 := x1) X _ _ _ hR hS hl hf)
abbrev rmX6_in : Room := { frames := 0, cells := 0, slots := 0, locals := 0 }
theorem kdX6_in : yX6_in.cls = RX6 ∧ yX6_in.cls ≠ "java/lang/invoke/MethodHandle" ∧ yX6_in.cls ≠ "java/lang/invoke/VarHandle" ∧ (parseMethodDescriptor yX6_in.desc).map (fun d => d.parameters.length) = some 3 := by decide +kernel
set_option maxRecDepth 100000 in
set_option maxHeartbeats 4000000 in
theorem bX6_in_0 {p : Program} {l : Launch} {e : Env} {s : State} {m : MethodId} {args : Array Value} {below : List Frame} {meth : Method} {c : Code} {D : va_G} {cy : Nat → ClassId} {ad : Nat → Nat} {ba : Nat} {O : Int64} {S : teS}  {x0 : Int64} {x2 : Int64} {x4 : Int64} {res : Int32} (X : teC wsX6_in RX6 cX6_in 6 (some .boolean) D cy ba p s m args meth c) (H : Heap) (locs : List Loc) (ls : Array Slot) (hR : teR D cy ad ba O S H) (hS : va_S (teA ba) s.heap H locs) (hl : lv_has ls 6 [(0, .long x0), (2, .long x2), (4, .long x4)]) (hf : fX6_in x0 x2 x4 S = some res) : W p l e (headSpec wsX6_in rmX6_in).room s m args below meth c H locs 0 0 (MQ below (va_Qi (fun a (u : teS) => a = res ∧ u = S) (fun u t => teR D cy ad ba O u t.heap) (teA ba)) args s 0 0 (teA ba)) (F0 m 0 ls []) := by
  have hx := X.1
  have hb := X.2.1
  have hown := X.2.2.2.2.1
  unfold fX6_in at hf
  refine lv_lload_n hx hb dX6_in_0 rfl (lv_at hl 0 rfl) ?_
  refine lv_lload_n hx hb dX6_in_1 rfl (lv_at hl 1 rfl) ?_
  refine W.lcmp hx hb dX6_in_2 ?_
  refine lv_if_lt (tgt := 17) hx hb dX6_in_3 (by decide) (fun c_1 => ?_) (fun c_1 => ?_)
  · replace hf := ite_t c_1 hf
    refine lv_iconst (v := (0 : Int32)) hx hb dX6_in_17 (by decide) ?_
    exact eZ X hR hS (by decide) (Option.some.inj hf) rfl dX6_in_18
  · replace hf := ite_f c_1 hf
    refine lv_lload_n hx hb dX6_in_6 rfl (lv_at hl 0 rfl) ?_
    refine lv_lload hx hb dX6_in_7 (lv_at hl 2 rfl) ?_
    refine W.lcmp hx hb dX6_in_9 ?_
    refine lv_if_gt (tgt := 17) hx hb dX6_in_10 (by decide) (fun c_2 => ?_) (fun c_2 => ?_)
    · replace hf := ite_t c_2 hf
      refine lv_iconst (v := (0 : Int32)) hx hb dX6_in_17 (by decide) ?_
      exact eZ X hR hS (by decide) (Option.some.inj hf) rfl dX6_in_18
    · replace hf := ite_f c_2 hf
      refine lv_iconst (v := (1 : Int32)) hx hb dX6_in_13 (by decide) ?_
      refine lv_goto (tgt := 18) hx hb dX6_in_14 (by decide) ?_
      exact eZ X hR hS (by decide) (Option.some.inj hf) rfl dX6_in_18
theorem zcX6_in (l : Launch) (D : va_G) (cy : Nat → ClassId) (ad : Nat → Nat) (ba : Nat) (O : Int64) (S : teS) (x0 : Int64) (x2 : Int64) (x4 : Int64) (res : Int32) (hf : fX6_in x0 x2 x4 S = some res) : cI l yX6_in wsX6_in rmX6_in D cy ad ba O S [.long x0, .long x2, .long x4] res S :=
  te_of (by decide +kernel) rfl (Nat.le_of_ble_eq_true rfl) (fun p e s m below meth c ls X hR hS hl => bX6_in_0 (S := S) (x0 := x0) (x2 := x2) (x4 := x4) X _ _ _ hR hS hl hf)
abbrev rmX6_copyPage : Room := { frames := 0, cells := 0, slots := 0, locals := 0 }
theorem kdX6_copyPage : yX6_copyPage.cls = RX6 ∧ yX6_copyPage.cls ≠ "java/lang/invoke/MethodHandle" ∧ yX6_copyPage.cls ≠ "java/lang/invoke/VarHandle" ∧ (parseMethodDescriptor yX6_copyPage.desc).map (fun d => d.parameters.length) = some 4 := by decide +kernel
set_option maxRecDepth 100000 in
set_option maxHeartbeats 4000000 in
theorem bX6_copyPage_3 {p : Program} {l : Launch} {e : Env} {s : State} {m : MethodId} {args : Array Value} {below : List Frame} {meth : Method} {c : Code} {D : va_G} {cy : Nat → ClassId} {ad : Nat → Nat} {ba : Nat} {O : Int64} {S : teS}  {r0 : Nat} {x1 : Int32} {r2 : Nat} {x3 : Int32} {res : teS} (hr0 : teK r0 = true) (hr2 : teK r2 = true) (X : teC wsX6_copyPage RX6 cX6_copyPage 5 none D cy ba p s m args meth c) : ∀ (n : Nat), ∀ (S1 : teS) (v4 : Int32) (H : Heap) (locs : List Loc) (ls : Array Slot), teR D cy ad ba O S1 H → va_S (teA ba) s.heap H locs → lv_has ls 5 [(0, .ref (ad r0)), (1, .int x1), (2, .ref (ad r2)), (3, .int x3), (4, .int v4)] → fX6_copyPage_3 r0 x1 r2 x3 n S1 v4 = some res → W p l e (headSpec wsX6_copyPage rmX6_copyPage).room s m args below meth c H locs 0 0 (MQ below (va_Qv (fun (u : teS) => u = res) (fun u t => teR D cy ad ba O u t.heap) (teA ba)) args s 0 0 (teA ba)) (F0 m 3 ls []) := by
  have hx := X.1
  have hb := X.2.1
  have hown := X.2.2.2.2.1
  intro n
  induction n with
  | zero =>
    intro S1 v4 H locs ls hR hS hl hf
    exact nomatch hf
  | succ n ih =>
    intro S1 v4 H locs ls hR hS hl hf
    unfold fX6_copyPage_3 at hf
    refine lv_iload hx hb dX6_copyPage_3 (lv_at hl 4 rfl) ?_
    refine lv_bipush (v := (92 : Int32)) hx hb dX6_copyPage_5 (by decide) ?_
    refine lv_icmp_ge (tgt := 28) hx hb dX6_copyPage_7 (by decide) (fun c_1 => ?_) (fun c_1 => ?_)
    · replace hf := ite_t c_1 hf
      exact eV X hR hS (Option.some.inj hf) dX6_copyPage_28
    · replace hf := ite_f c_1 hf
      refine lv_aload_n hx hb dX6_copyPage_10 rfl (lv_at hl 2 rfl) ?_
      refine lv_iload_n hx hb dX6_copyPage_11 rfl (lv_at hl 3 rfl) ?_
      refine lv_iload hx hb dX6_copyPage_12 (lv_at hl 4 rfl) ?_
      refine lv_iadd hx hb dX6_copyPage_14 ?_
      refine lv_aload_n hx hb dX6_copyPage_15 rfl (lv_at hl 0 rfl) ?_
      refine lv_iload_n hx hb dX6_copyPage_16 rfl (lv_at hl 1 rfl) ?_
      refine lv_iload hx hb dX6_copyPage_17 (lv_at hl 4 rfl) ?_
      refine lv_iadd hx hb dX6_copyPage_19 ?_
      obtain ⟨h_2, hf⟩ := chk_some hf
      refine ra_int X hR (r := r0) hr0 h_2 dX6_copyPage_20 ?_
      obtain ⟨h_3, hf⟩ := chk_some hf
      refine rs_int X hR hS (r := r2) hr2 h_3 dX6_copyPage_21 (fun H locs hR hS => ?_)
      generalize teu S1 r2 (x3 + v4).toNatClampNeg (S1 r0 (x1 + v4).toNatClampNeg) = S2 at hf hR
      replace hf := lt1_e hf
      refine lv_iinc (v := (v4 + (1 : Int32))) (lv' := [(4, .int (v4 + (1 : Int32))), (0, .ref (ad r0)), (1, .int x1), (2, .ref (ad r2)), (3, .int x3)]) hx hb dX6_copyPage_22 hl (k := 4) rfl rfl (by decide) rfl (fun ls hl => ?_)
      refine lv_goto (tgt := 3) hx hb dX6_copyPage_25 (by decide) ?_
      exact ih S2 ((v4 + (1 : Int32))) _ _ _ hR hS (lv_sub hl [1, 2, 3, 4, 0] rfl) hf
set_option maxRecDepth 100000 in
set_option maxHeartbeats 4000000 in
theorem bX6_copyPage_0 {p : Program} {l : Launch} {e : Env} {s : State} {m : MethodId} {args : Array Value} {below : List Frame} {meth : Method} {c : Code} {D : va_G} {cy : Nat → ClassId} {ad : Nat → Nat} {ba : Nat} {O : Int64} {S : teS}  {r0 : Nat} {x1 : Int32} {r2 : Nat} {x3 : Int32} {res : teS} (hr0 : teK r0 = true) (hr2 : teK r2 = true) (X : teC wsX6_copyPage RX6 cX6_copyPage 5 none D cy ba p s m args meth c) (H : Heap) (locs : List Loc) (ls : Array Slot) (hR : teR D cy ad ba O S H) (hS : va_S (teA ba) s.heap H locs) (hl : lv_has ls 5 [(0, .ref (ad r0)), (1, .int x1), (2, .ref (ad r2)), (3, .int x3)]) (hf : fX6_copyPage r0 x1 r2 x3 S = some res) : W p l e (headSpec wsX6_copyPage rmX6_copyPage).room s m args below meth c H locs 0 0 (MQ below (va_Qv (fun (u : teS) => u = res) (fun u t => teR D cy ad ba O u t.heap) (teA ba)) args s 0 0 (teA ba)) (F0 m 0 ls []) := by
  have hx := X.1
  have hb := X.2.1
  have hown := X.2.2.2.2.1
  unfold fX6_copyPage at hf
  refine lv_iconst (v := (0 : Int32)) hx hb dX6_copyPage_0 (by decide) ?_
  refine lv_istore (lv' := [(4, .int (0 : Int32)), (0, .ref (ad r0)), (1, .int x1), (2, .ref (ad r2)), (3, .int x3)]) hx hb dX6_copyPage_1 hl (by decide) rfl (fun ls hl => ?_)
  exact bX6_copyPage_3 (S := S) (r0 := r0) (x1 := x1) (r2 := r2) (x3 := x3) hr0 hr2 X 2000 S ((0 : Int32)) _ _ _ hR hS (lv_sub hl [1, 2, 3, 4, 0] rfl) hf
theorem zcX6_copyPage (l : Launch) (D : va_G) (cy : Nat → ClassId) (ad : Nat → Nat) (ba : Nat) (O : Int64) (S : teS) (r0 : Nat) (x1 : Int32) (r2 : Nat) (x3 : Int32) (hr0 : teK r0 = true) (hr2 : teK r2 = true) (res : teS) (hf : fX6_copyPage r0 x1 r2 x3 S = some res) : cV l yX6_copyPage wsX6_copyPage rmX6_copyPage D cy ad ba O S [.ref (ad r0), .int x1, .ref (ad r2), .int x3] res :=
  te_of (by decide +kernel) rfl (Nat.le_of_ble_eq_true rfl) (fun p e s m below meth c ls X hR hS hl => bX6_copyPage_0 (S := S) (r0 := r0) (x1 := x1) (r2 := r2) (x3 := x3) hr0 hr2 X _ _ _ hR hS hl hf)
abbrev rmX6_at : Room := { frames := 0, cells := 0, slots := 0, locals := 0 }
theorem kdX6_at : yX6_at.cls = RX6 ∧ yX6_at.cls ≠ "java/lang/invoke/MethodHandle" ∧ yX6_at.cls ≠ "java/lang/invoke/VarHandle" ∧ (parseMethodDescriptor yX6_at.desc).map (fun d => d.parameters.length) = some 1 := by decide +kernel
set_option maxRecDepth 100000 in
set_option maxHeartbeats 4000000 in
theorem bX6_at_0 {p : Program} {l : Launch} {e : Env} {s : State} {m : MethodId} {args : Array Value} {below : List Frame} {meth : Method} {c : Code} {D : va_G} {cy : Nat → ClassId} {ad : Nat → Nat} {ba : Nat} {O : Int64} {S : teS}  {x0 : Int32} {res : Int32} (X : teC wsX6_at RX6 cX6_at 1 (some .int) D cy ba p s m args meth c) (H : Heap) (locs : List Loc) (ls : Array Slot) (hR : teR D cy ad ba O S H) (hS : va_S (teA ba) s.heap H locs) (hl : lv_has ls 1 [(0, .int x0)]) (hf : fX6_at x0 S = some res) : W p l e (headSpec wsX6_at rmX6_at).room s m args below meth c H locs 0 0 (MQ below (va_Qi (fun a (u : teS) => a = res ∧ u = S) (fun u t => teR D cy ad ba O u t.heap) (teA ba)) args s 0 0 (teA ba)) (F0 m 0 ls []) := by
  have hx := X.1
  have hb := X.2.1
  have hown := X.2.2.2.2.1
  unfold fX6_at at hf
  refine lv_iconst (v := (2 : Int32)) hx hb dX6_at_0 (by decide) ?_
  refine lv_bipush (v := (10 : Int32)) hx hb dX6_at_1 (by decide) ?_
  refine lv_iload_n hx hb dX6_at_3 rfl (lv_at hl 0 rfl) ?_
  refine lv_imul hx hb dX6_at_4 ?_
  refine lv_iadd hx hb dX6_at_5 ?_
  exact eI X hR hS (Option.some.inj hf) rfl dX6_at_6
theorem zcX6_at (l : Launch) (D : va_G) (cy : Nat → ClassId) (ad : Nat → Nat) (ba : Nat) (O : Int64) (S : teS) (x0 : Int32) (res : Int32) (hf : fX6_at x0 S = some res) : cI l yX6_at wsX6_at rmX6_at D cy ad ba O S [.int x0] res S :=
  te_of (by decide +kernel) rfl (Nat.le_of_ble_eq_true rfl) (fun p e s m below meth c ls X hR hS hl => bX6_at_0 (S := S) (x0 := x0) X _ _ _ hR hS hl hf)
abbrev rmX6_isMember : Room := { frames := 1, cells := 0, slots := 0, locals := 25 }
theorem kdX6_isMember : yX6_isMember.cls = RX6 ∧ yX6_isMember.cls ≠ "java/lang/invoke/MethodHandle" ∧ yX6_isMember.cls ≠ "java/lang/invoke/VarHandle" ∧ (parseMethodDescriptor yX6_isMember.desc).map (fun d => d.parameters.length) = some 2 := by decide +kernel
set_option maxRecDepth 100000 in
set_option maxHeartbeats 4000000 in
theorem bX6_isMember_0 {p : Program} {l : Launch} {e : Env} {s : State} {m : MethodId} {args : Array Value} {below : List Frame} {meth : Method} {c : Code} {D : va_G} {cy : Nat → ClassId} {ad : Nat → Nat} {ba : Nat} {O : Int64} {S : teS}  {r0 : Nat} {x1 : Int32} {res : Int32} (hr0 : teK r0 = true) (X : teC wsX6_isMember RX6 cX6_isMember 2 (some .boolean) D cy ba p s m args meth c) (H : Heap) (locs : List Loc) (ls : Array Slot) (hR : teR D cy ad ba O S H) (hS : va_S (teA ba) s.heap H locs) (hl : lv_has ls 2 [(0, .ref (ad r0)), (1, .int x1)]) (hf : fX6_isMember r0 x1 S = some res) : W p l e (headSpec wsX6_isMember rmX6_isMember).room s m args below meth c H locs 0 0 (MQ below (va_Qi (fun a (u : teS) => a = res ∧ u = S) (fun u t => teR D cy ad ba O u t.heap) (teA ba)) args s 0 0 (teA ba)) (F0 m 0 ls []) := by
  have hx := X.1
  have hb := X.2.1
  have hown := X.2.2.2.2.1
  unfold fX6_isMember at hf
  refine lv_iload_n hx hb dX6_isMember_0 rfl (lv_at hl 1 rfl) ?_
  refine lv_i2l hx hb dX6_isMember_1 rfl ?_
  refine lv_lconst (v := (0 : Int64)) hx hb dX6_isMember_2 (by decide) ?_
  refine lv_aload_n hx hb dX6_isMember_3 rfl (lv_at hl 0 rfl) ?_
  refine lv_iconst (v := (0 : Int32)) hx hb dX6_isMember_4 (by decide) ?_
  obtain ⟨h_1, hf⟩ := chk_some hf
  refine ra_int X hR (r := r0) hr0 h_1 dX6_isMember_5 ?_
  refine lv_iconst (v := (1 : Int32)) hx hb dX6_isMember_6 (by decide) ?_
  refine lv_isub hx hb dX6_isMember_7 ?_
  refine lv_i2l hx hb dX6_isMember_8 rfl ?_
  obtain ⟨r_2, hq_3, hf⟩ := bd1_some hf
  refine kSi (As := [.long (x1).toInt64, .long (0 : Int64), .long (((S r0 (0 : Int32).toNatClampNeg) - (1 : Int32))).toInt64]) (rest := []) X hR hS (zcX6_in l D cy ad ba O S ((x1).toInt64) (0 : Int64) ((((S r0 (0 : Int32).toNatClampNeg) - (1 : Int32))).toInt64) _ hq_3) (va_cwS 3 X.2.2.2.2.2.1 gX6_isMember_X6_in rfl rfl rfl kdX6_in.2 ⟨(Nat.le_of_ble_eq_true rfl), (Nat.le_of_ble_eq_true rfl)⟩)  rfl rfl hl.1 (Nat.le_of_ble_eq_true rfl) ⟨(Nat.le_of_ble_eq_true rfl), (Nat.le_of_ble_eq_true rfl)⟩ dX6_isMember_9 (fun H locs hR hS => ?_)
  obtain ⟨h_4, hf⟩ := chk_some hf
  exact eZ X hR hS (of_decide_eq_true h_4) (Option.some.inj hf) rfl dX6_isMember_12
theorem zcX6_isMember (l : Launch) (D : va_G) (cy : Nat → ClassId) (ad : Nat → Nat) (ba : Nat) (O : Int64) (S : teS) (r0 : Nat) (x1 : Int32) (hr0 : teK r0 = true) (res : Int32) (hf : fX6_isMember r0 x1 S = some res) : cI l yX6_isMember wsX6_isMember rmX6_isMember D cy ad ba O S [.ref (ad r0), .int x1] res S :=
  te_of (by decide +kernel) rfl (Nat.le_of_ble_eq_true rfl) (fun p e s m below meth c ls X hR hS hl => bX6_isMember_0 (S := S) (r0 := r0) (x1 := x1) hr0 X _ _ _ hR hS hl hf)
abbrev rmX6_better : Room := { frames := 1, cells := 0, slots := 0, locals := 20 }
theorem kdX6_better : yX6_better.cls = RX6 ∧ yX6_better.cls ≠ "java/lang/invoke/MethodHandle" ∧ yX6_better.cls ≠ "java/lang/invoke/VarHandle" ∧ (parseMethodDescriptor yX6_better.desc).map (fun d => d.parameters.length) = some 3 := by decide +kernel
set_option maxRecDepth 100000 in
set_option maxHeartbeats 4000000 in
theorem bX6_better_0 {p : Program} {l : Launch} {e : Env} {s : State} {m : MethodId} {args : Array Value} {below : List Frame} {meth : Method} {c : Code} {D : va_G} {cy : Nat → ClassId} {ad : Nat → Nat} {ba : Nat} {O : Int64} {S : teS}  {r0 : Nat} {x1 : Int32} {x2 : Int32} {res : Int32} (hr0 : teK r0 = true) (X : teC wsX6_better RX6 cX6_better 4 (some .int) D cy ba p s m args meth c) (H : Heap) (locs : List Loc) (ls : Array Slot) (hR : teR D cy ad ba O S H) (hS : va_S (teA ba) s.heap H locs) (hl : lv_has ls 4 [(0, .ref (ad r0)), (1, .int x1), (2, .int x2)]) (hf : fX6_better r0 x1 x2 S = some res) : W p l e (headSpec wsX6_better rmX6_better).room s m args below meth c H locs 0 0 (MQ below (va_Qi (fun a (u : teS) => a = res ∧ u = S) (fun u t => teR D cy ad ba O u t.heap) (teA ba)) args s 0 0 (teA ba)) (F0 m 0 ls []) := by
  have hx := X.1
  have hb := X.2.1
  have hown := X.2.2.2.2.1
  unfold fX6_better at hf
  refine lv_aload_n hx hb dX6_better_0 rfl (lv_at hl 0 rfl) ?_
  refine lv_iload_n hx hb dX6_better_1 rfl (lv_at hl 1 rfl) ?_
  obtain ⟨r_1, hq_2, hf⟩ := bd1_some hf
  refine kSi (As := [.int x1]) (rest := [.ref (ad r0)]) X hR hS (zcX6_at l D cy ad ba O S x1 _ hq_2) (va_cwS 1 X.2.2.2.2.2.1 gX6_better_X6_at rfl rfl rfl kdX6_at.2 ⟨(Nat.le_of_ble_eq_true rfl), (Nat.le_of_ble_eq_true rfl)⟩)  rfl rfl hl.1 (Nat.le_of_ble_eq_true rfl) ⟨(Nat.le_of_ble_eq_true rfl), (Nat.le_of_ble_eq_true rfl)⟩ dX6_better_2 (fun H locs hR hS => ?_)
  refine lv_iconst (v := (4 : Int32)) hx hb dX6_better_5 (by decide) ?_
  refine lv_iadd hx hb dX6_better_6 ?_
  obtain ⟨h_3, hf⟩ := chk_some hf
  refine ra_int X hR (r := r0) hr0 h_3 dX6_better_7 ?_
  refine lv_istore_n (lv' := [(3, .int (S r0 (r_1 + (4 : Int32)).toNatClampNeg)), (0, .ref (ad r0)), (1, .int x1), (2, .int x2)]) hx hb dX6_better_8 rfl hl (by decide) rfl (fun ls hl => ?_)
  refine lv_aload_n hx hb dX6_better_9 rfl (lv_at hl 1 rfl) ?_
  refine lv_iload_n hx hb dX6_better_10 rfl (lv_at hl 3 rfl) ?_
  obtain ⟨r_4, hq_5, hf⟩ := bd1_some hf
  refine kSi (As := [.int x2]) (rest := [.ref (ad r0)]) X hR hS (zcX6_at l D cy ad ba O S x2 _ hq_5) (va_cwS 1 X.2.2.2.2.2.1 gX6_better_X6_at rfl rfl rfl kdX6_at.2 ⟨(Nat.le_of_ble_eq_true rfl), (Nat.le_of_ble_eq_true rfl)⟩)  rfl rfl hl.1 (Nat.le_of_ble_eq_true rfl) ⟨(Nat.le_of_ble_eq_true rfl), (Nat.le_of_ble_eq_true rfl)⟩ dX6_better_11 (fun H locs hR hS => ?_)
  refine lv_iload_n hx hb dX6_better_14 rfl (lv_at hl 0 rfl) ?_
  refine lv_iadd hx hb dX6_better_15 ?_
  obtain ⟨h_6, hf⟩ := chk_some hf
  refine ra_int X hR (r := r0) hr0 h_6 dX6_better_16 ?_
  refine lv_aload_n hx hb dX6_better_17 rfl (lv_at hl 1 rfl) ?_
  refine lv_iload_n hx hb dX6_better_18 rfl (lv_at hl 2 rfl) ?_
  obtain ⟨r_7, hq_8, hf⟩ := bd1_some hf
  refine kSi (As := [.int x1]) (rest := [.ref (ad r0), .int (S r0 (r_4 + (S r0 (r_1 + (4 : Int32)).toNatClampNeg)).toNatClampNeg)]) X hR hS (zcX6_at l D cy ad ba O S x1 _ hq_8) (va_cwS 1 X.2.2.2.2.2.1 gX6_better_X6_at rfl rfl rfl kdX6_at.2 ⟨(Nat.le_of_ble_eq_true rfl), (Nat.le_of_ble_eq_true rfl)⟩)  rfl rfl hl.1 (Nat.le_of_ble_eq_true rfl) ⟨(Nat.le_of_ble_eq_true rfl), (Nat.le_of_ble_eq_true rfl)⟩ dX6_better_19 (fun H locs hR hS => ?_)
  refine lv_iload_n hx hb dX6_better_22 rfl (lv_at hl 0 rfl) ?_
  refine lv_iadd hx hb dX6_better_23 ?_
  obtain ⟨h_9, hf⟩ := chk_some hf
  refine ra_int X hR (r := r0) hr0 h_9 dX6_better_24 ?_
  refine lv_isub hx hb dX6_better_25 ?_
  exact eI X hR hS (Option.some.inj hf) rfl dX6_better_26
theorem zcX6_better (l : Launch) (D : va_G) (cy : Nat → ClassId) (ad : Nat → Nat) (ba : Nat) (O : Int64) (S : teS) (r0 : Nat) (x1 : Int32) (x2 : Int32) (hr0 : teK r0 = true) (res : Int32) (hf : fX6_better r0 x1 x2 S = some res) : cI l yX6_better wsX6_better rmX6_better D cy ad ba O S [.ref (ad r0), .int x1, .int x2] res S :=
  te_of (by decide +kernel) rfl (Nat.le_of_ble_eq_true rfl) (fun p e s m below meth c ls X hR hS hl => bX6_better_0 (S := S) (r0 := r0) (x1 := x1) (x2 := x2) hr0 X _ _ _ hR hS hl hf)
abbrev rmX6_quarter : Room := { frames := 0, cells := 0, slots := 0, locals := 0 }
theorem kdX6_quarter : yX6_quarter.cls = RX6 ∧ yX6_quarter.cls ≠ "java/lang/invoke/MethodHandle" ∧ yX6_quarter.cls ≠ "java/lang/invoke/VarHandle" ∧ (parseMethodDescriptor yX6_quarter.desc).map (fun d => d.parameters.length) = some 1 := by decide +kernel
set_option maxRecDepth 100000 in
set_option maxHeartbeats 4000000 in
theorem bX6_quarter_0 {p : Program} {l : Launch} {e : Env} {s : State} {m : MethodId} {args : Array Value} {below : List Frame} {meth : Method} {c : Code} {D : va_G} {cy : Nat → ClassId} {ad : Nat → Nat} {ba : Nat} {O : Int64} {S : teS}  {x0 : Int32} {res : Int32} (X : teC wsX6_quarter RX6 cX6_quarter 1 (some .int) D cy ba p s m args meth c) (H : Heap) (locs : List Loc) (ls : Array Slot) (hR : teR D cy ad ba O S H) (hS : va_S (teA ba) s.heap H locs) (hl : lv_has ls 1 [(0, .int x0)]) (hf : fX6_quarter x0 S = some res) : W p l e (headSpec wsX6_quarter rmX6_quarter).room s m args below meth c H locs 0 0 (MQ below (va_Qi (fun a (u : teS) => a = res ∧ u = S) (fun u t => teR D cy ad ba O u t.heap) (teA ba)) args s 0 0 (teA ba)) (F0 m 0 ls []) := by
  have hx := X.1
  have hb := X.2.1
  have hown := X.2.2.2.2.1
  unfold fX6_quarter at hf
  refine lv_iload_n hx hb dX6_quarter_0 rfl (lv_at hl 0 rfl) ?_
  refine lv_if_ge (tgt := 13) hx hb dX6_quarter_1 (by decide) (fun c_1 => ?_) (fun c_1 => ?_)
  · replace hf := ite_t c_1 hf
    refine lv_iload_n hx hb dX6_quarter_13 rfl (lv_at hl 0 rfl) ?_
    refine lv_iconst (v := (4 : Int32)) hx hb dX6_quarter_14 (by decide) ?_
    refine lv_idiv hx hb dX6_quarter_15 (by decide) ?_
    exact eI X hR hS (Option.some.inj hf) rfl dX6_quarter_16
  · replace hf := ite_f c_1 hf
    refine lv_iconst (v := (3 : Int32)) hx hb dX6_quarter_4 (by decide) ?_
    refine lv_iload_n hx hb dX6_quarter_5 rfl (lv_at hl 0 rfl) ?_
    refine lv_isub hx hb dX6_quarter_6 ?_
    refine lv_iconst (v := (4 : Int32)) hx hb dX6_quarter_7 (by decide) ?_
    refine lv_idiv hx hb dX6_quarter_8 (by decide) ?_
    refine lv_ineg hx hb dX6_quarter_9 ?_
    refine lv_goto (tgt := 16) hx hb dX6_quarter_10 (by decide) ?_
    exact eI X hR hS (Option.some.inj hf) rfl dX6_quarter_16
theorem zcX6_quarter (l : Launch) (D : va_G) (cy : Nat → ClassId) (ad : Nat → Nat) (ba : Nat) (O : Int64) (S : teS) (x0 : Int32) (res : Int32) (hf : fX6_quarter x0 S = some res) : cI l yX6_quarter wsX6_quarter rmX6_quarter D cy ad ba O S [.int x0] res S :=
  te_of (by decide +kernel) rfl (Nat.le_of_ble_eq_true rfl) (fun p e s m below meth c ls X hR hS hl => bX6_quarter_0 (S := S) (x0 := x0) X _ _ _ hR hS hl hf)
abbrev rmX6_score : Room := { frames := 2, cells := 0, slots := 0, locals := 43 }
theorem kdX6_score : yX6_score.cls = RX6 ∧ yX6_score.cls ≠ "java/lang/invoke/MethodHandle" ∧ yX6_score.cls ≠ "java/lang/invoke/VarHandle" ∧ (parseMethodDescriptor yX6_score.desc).map (fun d => d.parameters.length) = some 3 := by decide +kernel
set_option maxRecDepth 100000 in
set_option maxHeartbeats 4000000 in
theorem bX6_score_0 {p : Program} {l : Launch} {e : Env} {s : State} {m : MethodId} {args : Array Value} {below : List Frame} {meth : Method} {c : Code} {D : va_G} {cy : Nat → ClassId} {ad : Nat → Nat} {ba : Nat} {O : Int64} {S : teS}  {r0 : Nat} {x1 : Int32} {x2 : Int32} {res : Int32} (hr0 : teK r0 = true) (X : teC wsX6_score RX6 cX6_score 3 (some .int) D cy ba p s m args meth c) (H : Heap) (locs : List Loc) (ls : Array Slot) (hR : teR D cy ad ba O S H) (hS : va_S (teA ba) s.heap H locs) (hl : lv_has ls 3 [(0, .ref (ad r0)), (1, .int x1), (2, .int x2)]) (hf : fX6_score r0 x1 x2 S = some res) : W p l e (headSpec wsX6_score rmX6_score).room s m args below meth c H locs 0 0 (MQ below (va_Qi (fun a (u : teS) => a = res ∧ u = S) (fun u t => teR D cy ad ba O u t.heap) (teA ba)) args s 0 0 (teA ba)) (F0 m 0 ls []) := by
  have hx := X.1
  have hb := X.2.1
  have hown := X.2.2.2.2.1
  unfold fX6_score at hf
  refine lv_bipush (v := (10 : Int32)) hx hb dX6_score_0 (by decide) ?_
  refine lv_aload_n hx hb dX6_score_2 rfl (lv_at hl 0 rfl) ?_
  refine lv_iload_n hx hb dX6_score_3 rfl (lv_at hl 1 rfl) ?_
  refine lv_iload_n hx hb dX6_score_4 rfl (lv_at hl 2 rfl) ?_
  obtain ⟨r_1, hq_2, hf⟩ := bd1_some hf
  refine kSi (As := [.ref (ad r0), .int x1, .int x2]) (rest := [.int (10 : Int32)]) X hR hS (zcX6_better l D cy ad ba O S r0 x1 x2 hr0 _ hq_2) (va_cwS 3 X.2.2.2.2.2.1 gX6_score_X6_better rfl rfl rfl kdX6_better.2 ⟨(Nat.le_of_ble_eq_true rfl), (Nat.le_of_ble_eq_true rfl)⟩)  rfl rfl hl.1 (Nat.le_of_ble_eq_true rfl) ⟨(Nat.le_of_ble_eq_true rfl), (Nat.le_of_ble_eq_true rfl)⟩ dX6_score_5 (fun H locs hR hS => ?_)
  refine lv_imul hx hb dX6_score_8 ?_
  refine lv_iconst (v := (5 : Int32)) hx hb dX6_score_9 (by decide) ?_
  refine lv_aload_n hx hb dX6_score_10 rfl (lv_at hl 0 rfl) ?_
  refine lv_iload_n hx hb dX6_score_11 rfl (lv_at hl 2 rfl) ?_
  obtain ⟨r_3, hq_4, hf⟩ := bd1_some hf
  refine kSi (As := [.int x2]) (rest := [.ref (ad r0), .int (5 : Int32), .int ((10 : Int32) * r_1)]) X hR hS (zcX6_at l D cy ad ba O S x2 _ hq_4) (va_cwS 1 X.2.2.2.2.2.1 gX6_score_X6_at rfl rfl rfl kdX6_at.2 ⟨(Nat.le_of_ble_eq_true rfl), (Nat.le_of_ble_eq_true rfl)⟩)  rfl rfl hl.1 (Nat.le_of_ble_eq_true rfl) ⟨(Nat.le_of_ble_eq_true rfl), (Nat.le_of_ble_eq_true rfl)⟩ dX6_score_12 (fun H locs hR hS => ?_)
  refine lv_bipush (v := (7 : Int32)) hx hb dX6_score_15 (by decide) ?_
  refine lv_iadd hx hb dX6_score_17 ?_
  obtain ⟨h_5, hf⟩ := chk_some hf
  refine ra_int X hR (r := r0) hr0 h_5 dX6_score_18 ?_
  refine lv_imul hx hb dX6_score_19 ?_
  refine lv_isub hx hb dX6_score_20 ?_
  refine lv_aload_n hx hb dX6_score_21 rfl (lv_at hl 0 rfl) ?_
  refine lv_iload_n hx hb dX6_score_22 rfl (lv_at hl 2 rfl) ?_
  obtain ⟨r_6, hq_7, hf⟩ := bd1_some hf
  refine kSi (As := [.int x2]) (rest := [.ref (ad r0), .int (((10 : Int32) * r_1) - ((5 : Int32) * (S r0 (r_3 + (7 : Int32)).toNatClampNeg)))]) X hR hS (zcX6_at l D cy ad ba O S x2 _ hq_7) (va_cwS 1 X.2.2.2.2.2.1 gX6_score_X6_at rfl rfl rfl kdX6_at.2 ⟨(Nat.le_of_ble_eq_true rfl), (Nat.le_of_ble_eq_true rfl)⟩)  rfl rfl hl.1 (Nat.le_of_ble_eq_true rfl) ⟨(Nat.le_of_ble_eq_true rfl), (Nat.le_of_ble_eq_true rfl)⟩ dX6_score_23 (fun H locs hR hS => ?_)
  refine lv_bipush (v := (6 : Int32)) hx hb dX6_score_26 (by decide) ?_
  refine lv_iadd hx hb dX6_score_28 ?_
  obtain ⟨h_8, hf⟩ := chk_some hf
  refine ra_int X hR (r := r0) hr0 h_8 dX6_score_29 ?_
  obtain ⟨r_9, hq_10, hf⟩ := bd1_some hf
  refine kSi (As := [.int (S r0 (r_6 + (6 : Int32)).toNatClampNeg)]) (rest := [.int (((10 : Int32) * r_1) - ((5 : Int32) * (S r0 (r_3 + (7 : Int32)).toNatClampNeg)))]) X hR hS (zcX6_quarter l D cy ad ba O S (S r0 (r_6 + (6 : Int32)).toNatClampNeg) _ hq_10) (va_cwS 1 X.2.2.2.2.2.1 gX6_score_X6_quarter rfl rfl rfl kdX6_quarter.2 ⟨(Nat.le_of_ble_eq_true rfl), (Nat.le_of_ble_eq_true rfl)⟩)  rfl rfl hl.1 (Nat.le_of_ble_eq_true rfl) ⟨(Nat.le_of_ble_eq_true rfl), (Nat.le_of_ble_eq_true rfl)⟩ dX6_score_30 (fun H locs hR hS => ?_)
  refine lv_iadd hx hb dX6_score_33 ?_
  exact eI X hR hS (Option.some.inj hf) rfl dX6_score_34
theorem zcX6_score (l : Launch) (D : va_G) (cy : Nat → ClassId) (ad : Nat → Nat) (ba : Nat) (O : Int64) (S : teS) (r0 : Nat) (x1 : Int32) (x2 : Int32) (hr0 : teK r0 = true) (res : Int32) (hf : fX6_score r0 x1 x2 S = some res) : cI l yX6_score wsX6_score rmX6_score D cy ad ba O S [.ref (ad r0), .int x1, .int x2] res S :=
  te_of (by decide +kernel) rfl (Nat.le_of_ble_eq_true rfl) (fun p e s m below meth c ls X hR hS hl => bX6_score_0 (S := S) (r0 := r0) (x1 := x1) (x2 := x2) hr0 X _ _ _ hR hS hl hf)
abbrev rmX6_valueOf : Room := { frames := 3, cells := 0, slots := 0, locals := 65 }
theorem kdX6_valueOf : yX6_valueOf.cls = RX6 ∧ yX6_valueOf.cls ≠ "java/lang/invoke/MethodHandle" ∧ yX6_valueOf.cls ≠ "java/lang/invoke/VarHandle" ∧ (parseMethodDescriptor yX6_valueOf.desc).map (fun d => d.parameters.length) = some 3 := by decide +kernel
set_option maxRecDepth 100000 in
set_option maxHeartbeats 4000000 in
theorem bX6_valueOf_0 {p : Program} {l : Launch} {e : Env} {s : State} {m : MethodId} {args : Array Value} {below : List Frame} {meth : Method} {c : Code} {D : va_G} {cy : Nat → ClassId} {ad : Nat → Nat} {ba : Nat} {O : Int64} {S : teS}  {r0 : Nat} {x1 : Int32} {x2 : Int32} {res : Int32} (hr0 : teK r0 = true) (X : teC wsX6_valueOf RX6 cX6_valueOf 3 (some .int) D cy ba p s m args meth c) (H : Heap) (locs : List Loc) (ls : Array Slot) (hR : teR D cy ad ba O S H) (hS : va_S (teA ba) s.heap H locs) (hl : lv_has ls 3 [(0, .ref (ad r0)), (1, .int x1), (2, .int x2)]) (hf : fX6_valueOf r0 x1 x2 S = some res) : W p l e (headSpec wsX6_valueOf rmX6_valueOf).room s m args below meth c H locs 0 0 (MQ below (va_Qi (fun a (u : teS) => a = res ∧ u = S) (fun u t => teR D cy ad ba O u t.heap) (teA ba)) args s 0 0 (teA ba)) (F0 m 0 ls []) := by
  have hx := X.1
  have hb := X.2.1
  have hown := X.2.2.2.2.1
  unfold fX6_valueOf at hf
  refine lv_aload_n hx hb dX6_valueOf_0 rfl (lv_at hl 0 rfl) ?_
  refine lv_iload_n hx hb dX6_valueOf_1 rfl (lv_at hl 1 rfl) ?_
  refine lv_iload_n hx hb dX6_valueOf_2 rfl (lv_at hl 2 rfl) ?_
  obtain ⟨r_1, hq_2, hf⟩ := bd1_some hf
  refine kSi (As := [.ref (ad r0), .int x1, .int x2]) (rest := []) X hR hS (zcX6_score l D cy ad ba O S r0 x1 x2 hr0 _ hq_2) (va_cwS 3 X.2.2.2.2.2.1 gX6_valueOf_X6_score rfl rfl rfl kdX6_score.2 ⟨(Nat.le_of_ble_eq_true rfl), (Nat.le_of_ble_eq_true rfl)⟩)  rfl rfl hl.1 (Nat.le_of_ble_eq_true rfl) ⟨(Nat.le_of_ble_eq_true rfl), (Nat.le_of_ble_eq_true rfl)⟩ dX6_valueOf_3 (fun H locs hR hS => ?_)
  refine lv_aload_n hx hb dX6_valueOf_6 rfl (lv_at hl 0 rfl) ?_
  refine lv_iload_n hx hb dX6_valueOf_7 rfl (lv_at hl 2 rfl) ?_
  refine lv_iload_n hx hb dX6_valueOf_8 rfl (lv_at hl 1 rfl) ?_
  obtain ⟨r_3, hq_4, hf⟩ := bd1_some hf
  refine kSi (As := [.ref (ad r0), .int x2, .int x1]) (rest := [.int r_1]) X hR hS (zcX6_score l D cy ad ba O S r0 x2 x1 hr0 _ hq_4) (va_cwS 3 X.2.2.2.2.2.1 gX6_valueOf_X6_score rfl rfl rfl kdX6_score.2 ⟨(Nat.le_of_ble_eq_true rfl), (Nat.le_of_ble_eq_true rfl)⟩)  rfl rfl hl.1 (Nat.le_of_ble_eq_true rfl) ⟨(Nat.le_of_ble_eq_true rfl), (Nat.le_of_ble_eq_true rfl)⟩ dX6_valueOf_9 (fun H locs hR hS => ?_)
  refine lv_iadd hx hb dX6_valueOf_12 ?_
  exact eI X hR hS (Option.some.inj hf) rfl dX6_valueOf_13
theorem zcX6_valueOf (l : Launch) (D : va_G) (cy : Nat → ClassId) (ad : Nat → Nat) (ba : Nat) (O : Int64) (S : teS) (r0 : Nat) (x1 : Int32) (x2 : Int32) (hr0 : teK r0 = true) (res : Int32) (hf : fX6_valueOf r0 x1 x2 S = some res) : cI l yX6_valueOf wsX6_valueOf rmX6_valueOf D cy ad ba O S [.ref (ad r0), .int x1, .int x2] res S :=
  te_of (by decide +kernel) rfl (Nat.le_of_ble_eq_true rfl) (fun p e s m below meth c ls X hR hS hl => bX6_valueOf_0 (S := S) (r0 := r0) (x1 := x1) (x2 := x2) hr0 X _ _ _ hR hS hl hf)
abbrev rmX6_fit : Room := { frames := 2, cells := 0, slots := 0, locals := 43 }
theorem kdX6_fit : yX6_fit.cls = RX6 ∧ yX6_fit.cls ≠ "java/lang/invoke/MethodHandle" ∧ yX6_fit.cls ≠ "java/lang/invoke/VarHandle" ∧ (parseMethodDescriptor yX6_fit.desc).map (fun d => d.parameters.length) = some 3 := by decide +kernel
set_option maxRecDepth 100000 in
set_option maxHeartbeats 4000000 in
theorem bX6_fit_0 {p : Program} {l : Launch} {e : Env} {s : State} {m : MethodId} {args : Array Value} {below : List Frame} {meth : Method} {c : Code} {D : va_G} {cy : Nat → ClassId} {ad : Nat → Nat} {ba : Nat} {O : Int64} {S : teS}  {r0 : Nat} {x1 : Int32} {x2 : Int32} {res : Int32} (hr0 : teK r0 = true) (X : teC wsX6_fit RX6 cX6_fit 3 (some .boolean) D cy ba p s m args meth c) (H : Heap) (locs : List Loc) (ls : Array Slot) (hR : teR D cy ad ba O S H) (hS : va_S (teA ba) s.heap H locs) (hl : lv_has ls 3 [(0, .ref (ad r0)), (1, .int x1), (2, .int x2)]) (hf : fX6_fit r0 x1 x2 S = some res) : W p l e (headSpec wsX6_fit rmX6_fit).room s m args below meth c H locs 0 0 (MQ below (va_Qi (fun a (u : teS) => a = res ∧ u = S) (fun u t => teR D cy ad ba O u t.heap) (teA ba)) args s 0 0 (teA ba)) (F0 m 0 ls []) := by
  have hx := X.1
  have hb := X.2.1
  have hown := X.2.2.2.2.1
  unfold fX6_fit at hf
  refine lv_iload_n hx hb dX6_fit_0 rfl (lv_at hl 1 rfl) ?_
  refine lv_iload_n hx hb dX6_fit_1 rfl (lv_at hl 2 rfl) ?_
  refine lv_icmp_eq (tgt := 29) hx hb dX6_fit_2 (by decide) (fun c_1 => ?_) (fun c_1 => ?_)
  · replace hf := ite_t c_1 hf
    refine lv_iconst (v := (0 : Int32)) hx hb dX6_fit_29 (by decide) ?_
    exact eZ X hR hS (by decide) (Option.some.inj hf) rfl dX6_fit_30
  · replace hf := ite_f c_1 hf
    refine lv_aload_n hx hb dX6_fit_5 rfl (lv_at hl 0 rfl) ?_
    refine lv_iload_n hx hb dX6_fit_6 rfl (lv_at hl 1 rfl) ?_
    refine lv_iload_n hx hb dX6_fit_7 rfl (lv_at hl 2 rfl) ?_
    obtain ⟨r_2, hq_3, hf⟩ := bd1_some hf
    refine kSi (As := [.ref (ad r0), .int x1, .int x2]) (rest := []) X hR hS (zcX6_better l D cy ad ba O S r0 x1 x2 hr0 _ hq_3) (va_cwS 3 X.2.2.2.2.2.1 gX6_fit_X6_better rfl rfl rfl kdX6_better.2 ⟨(Nat.le_of_ble_eq_true rfl), (Nat.le_of_ble_eq_true rfl)⟩)  rfl rfl hl.1 (Nat.le_of_ble_eq_true rfl) ⟨(Nat.le_of_ble_eq_true rfl), (Nat.le_of_ble_eq_true rfl)⟩ dX6_fit_8 (fun H locs hR hS => ?_)
    refine lv_iconst (v := (2 : Int32)) hx hb dX6_fit_11 (by decide) ?_
    refine lv_icmp_lt (tgt := 29) hx hb dX6_fit_12 (by decide) (fun c_4 => ?_) (fun c_4 => ?_)
    · replace hf := ite_t c_4 hf
      refine lv_iconst (v := (0 : Int32)) hx hb dX6_fit_29 (by decide) ?_
      exact eZ X hR hS (by decide) (Option.some.inj hf) rfl dX6_fit_30
    · replace hf := ite_f c_4 hf
      refine lv_aload_n hx hb dX6_fit_15 rfl (lv_at hl 0 rfl) ?_
      refine lv_iload_n hx hb dX6_fit_16 rfl (lv_at hl 2 rfl) ?_
      refine lv_iload_n hx hb dX6_fit_17 rfl (lv_at hl 1 rfl) ?_
      obtain ⟨r_5, hq_6, hf⟩ := bd1_some hf
      refine kSi (As := [.ref (ad r0), .int x2, .int x1]) (rest := []) X hR hS (zcX6_better l D cy ad ba O S r0 x2 x1 hr0 _ hq_6) (va_cwS 3 X.2.2.2.2.2.1 gX6_fit_X6_better rfl rfl rfl kdX6_better.2 ⟨(Nat.le_of_ble_eq_true rfl), (Nat.le_of_ble_eq_true rfl)⟩)  rfl rfl hl.1 (Nat.le_of_ble_eq_true rfl) ⟨(Nat.le_of_ble_eq_true rfl), (Nat.le_of_ble_eq_true rfl)⟩ dX6_fit_18 (fun H locs hR hS => ?_)
      refine lv_iconst (v := (2 : Int32)) hx hb dX6_fit_21 (by decide) ?_
      refine lv_icmp_lt (tgt := 29) hx hb dX6_fit_22 (by decide) (fun c_7 => ?_) (fun c_7 => ?_)
      · replace hf := ite_t c_7 hf
        refine lv_iconst (v := (0 : Int32)) hx hb dX6_fit_29 (by decide) ?_
        exact eZ X hR hS (by decide) (Option.some.inj hf) rfl dX6_fit_30
      · replace hf := ite_f c_7 hf
        refine lv_iconst (v := (1 : Int32)) hx hb dX6_fit_25 (by decide) ?_
        refine lv_goto (tgt := 30) hx hb dX6_fit_26 (by decide) ?_
        exact eZ X hR hS (by decide) (Option.some.inj hf) rfl dX6_fit_30
theorem zcX6_fit (l : Launch) (D : va_G) (cy : Nat → ClassId) (ad : Nat → Nat) (ba : Nat) (O : Int64) (S : teS) (r0 : Nat) (x1 : Int32) (x2 : Int32) (hr0 : teK r0 = true) (res : Int32) (hf : fX6_fit r0 x1 x2 S = some res) : cI l yX6_fit wsX6_fit rmX6_fit D cy ad ba O S [.ref (ad r0), .int x1, .int x2] res S :=
  te_of (by decide +kernel) rfl (Nat.le_of_ble_eq_true rfl) (fun p e s m below meth c ls X hR hS hl => bX6_fit_0 (S := S) (r0 := r0) (x1 := x1) (x2 := x2) hr0 X _ _ _ hR hS hl hf)
abbrev rmX6_isFree : Room := { frames := 1, cells := 0, slots := 0, locals := 20 }
theorem kdX6_isFree : yX6_isFree.cls = RX6 ∧ yX6_isFree.cls ≠ "java/lang/invoke/MethodHandle" ∧ yX6_isFree.cls ≠ "java/lang/invoke/VarHandle" ∧ (parseMethodDescriptor yX6_isFree.desc).map (fun d => d.parameters.length) = some 2 := by decide +kernel
set_option maxRecDepth 100000 in
set_option maxHeartbeats 4000000 in
theorem bX6_isFree_0 {p : Program} {l : Launch} {e : Env} {s : State} {m : MethodId} {args : Array Value} {below : List Frame} {meth : Method} {c : Code} {D : va_G} {cy : Nat → ClassId} {ad : Nat → Nat} {ba : Nat} {O : Int64} {S : teS}  {r0 : Nat} {x1 : Int32} {res : Int32} (hr0 : teK r0 = true) (X : teC wsX6_isFree RX6 cX6_isFree 2 (some .boolean) D cy ba p s m args meth c) (H : Heap) (locs : List Loc) (ls : Array Slot) (hR : teR D cy ad ba O S H) (hS : va_S (teA ba) s.heap H locs) (hl : lv_has ls 2 [(0, .ref (ad r0)), (1, .int x1)]) (hf : fX6_isFree r0 x1 S = some res) : W p l e (headSpec wsX6_isFree rmX6_isFree).room s m args below meth c H locs 0 0 (MQ below (va_Qi (fun a (u : teS) => a = res ∧ u = S) (fun u t => teR D cy ad ba O u t.heap) (teA ba)) args s 0 0 (teA ba)) (F0 m 0 ls []) := by
  have hx := X.1
  have hb := X.2.1
  have hown := X.2.2.2.2.1
  unfold fX6_isFree at hf
  refine lv_aload_n hx hb dX6_isFree_0 rfl (lv_at hl 0 rfl) ?_
  refine lv_iload_n hx hb dX6_isFree_1 rfl (lv_at hl 1 rfl) ?_
  obtain ⟨r_1, hq_2, hf⟩ := bd1_some hf
  refine kSi (As := [.int x1]) (rest := [.ref (ad r0)]) X hR hS (zcX6_at l D cy ad ba O S x1 _ hq_2) (va_cwS 1 X.2.2.2.2.2.1 gX6_isFree_X6_at rfl rfl rfl kdX6_at.2 ⟨(Nat.le_of_ble_eq_true rfl), (Nat.le_of_ble_eq_true rfl)⟩)  rfl rfl hl.1 (Nat.le_of_ble_eq_true rfl) ⟨(Nat.le_of_ble_eq_true rfl), (Nat.le_of_ble_eq_true rfl)⟩ dX6_isFree_2 (fun H locs hR hS => ?_)
  refine lv_bipush (v := (8 : Int32)) hx hb dX6_isFree_5 (by decide) ?_
  refine lv_iadd hx hb dX6_isFree_7 ?_
  obtain ⟨h_3, hf⟩ := chk_some hf
  refine ra_int X hR (r := r0) hr0 h_3 dX6_isFree_8 ?_
  refine lv_sipush (v := (-9999 : Int32)) hx hb dX6_isFree_9 (by decide) ?_
  refine lv_icmp_ne (tgt := 19) hx hb dX6_isFree_12 (by decide) (fun c_4 => ?_) (fun c_4 => ?_)
  · replace hf := ite_f c_4 hf
    refine lv_iconst (v := (0 : Int32)) hx hb dX6_isFree_19 (by decide) ?_
    exact eZ X hR hS (by decide) (Option.some.inj hf) rfl dX6_isFree_20
  · replace hf := ite_t c_4 hf
    refine lv_iconst (v := (1 : Int32)) hx hb dX6_isFree_15 (by decide) ?_
    refine lv_goto (tgt := 20) hx hb dX6_isFree_16 (by decide) ?_
    exact eZ X hR hS (by decide) (Option.some.inj hf) rfl dX6_isFree_20
theorem zcX6_isFree (l : Launch) (D : va_G) (cy : Nat → ClassId) (ad : Nat → Nat) (ba : Nat) (O : Int64) (S : teS) (r0 : Nat) (x1 : Int32) (hr0 : teK r0 = true) (res : Int32) (hf : fX6_isFree r0 x1 S = some res) : cI l yX6_isFree wsX6_isFree rmX6_isFree D cy ad ba O S [.ref (ad r0), .int x1] res S :=
  te_of (by decide +kernel) rfl (Nat.le_of_ble_eq_true rfl) (fun p e s m below meth c ls X hR hS hl => bX6_isFree_0 (S := S) (r0 := r0) (x1 := x1) hr0 X _ _ _ hR hS hl hf)
abbrev rmX6_prefers : Room := { frames := 3, cells := 0, slots := 0, locals := 65 }
theorem kdX6_prefers : yX6_prefers.cls = RX6 ∧ yX6_prefers.cls ≠ "java/lang/invoke/MethodHandle" ∧ yX6_prefers.cls ≠ "java/lang/invoke/VarHandle" ∧ (parseMethodDescriptor yX6_prefers.desc).map (fun d => d.parameters.length) = some 3 := by decide +kernel
set_option maxRecDepth 100000 in
set_option maxHeartbeats 4000000 in
theorem bX6_prefers_0 {p : Program} {l : Launch} {e : Env} {s : State} {m : MethodId} {args : Array Value} {below : List Frame} {meth : Method} {c : Code} {D : va_G} {cy : Nat → ClassId} {ad : Nat → Nat} {ba : Nat} {O : Int64} {S : teS}  {r0 : Nat} {x1 : Int32} {x2 : Int32} {res : Int32} (hr0 : teK r0 = true) (X : teC wsX6_prefers RX6 cX6_prefers 3 (some .boolean) D cy ba p s m args meth c) (H : Heap) (locs : List Loc) (ls : Array Slot) (hR : teR D cy ad ba O S H) (hS : va_S (teA ba) s.heap H locs) (hl : lv_has ls 3 [(0, .ref (ad r0)), (1, .int x1), (2, .int x2)]) (hf : fX6_prefers r0 x1 x2 S = some res) : W p l e (headSpec wsX6_prefers rmX6_prefers).room s m args below meth c H locs 0 0 (MQ below (va_Qi (fun a (u : teS) => a = res ∧ u = S) (fun u t => teR D cy ad ba O u t.heap) (teA ba)) args s 0 0 (teA ba)) (F0 m 0 ls []) := by
  have hx := X.1
  have hb := X.2.1
  have hown := X.2.2.2.2.1
  unfold fX6_prefers at hf
  refine lv_aload_n hx hb dX6_prefers_0 rfl (lv_at hl 0 rfl) ?_
  refine lv_iload_n hx hb dX6_prefers_1 rfl (lv_at hl 1 rfl) ?_
  obtain ⟨r_1, hq_2, hf⟩ := bd1_some hf
  refine kSi (As := [.ref (ad r0), .int x1]) (rest := []) X hR hS (zcX6_isFree l D cy ad ba O S r0 x1 hr0 _ hq_2) (va_cwS 2 X.2.2.2.2.2.1 gX6_prefers_X6_isFree rfl rfl rfl kdX6_isFree.2 ⟨(Nat.le_of_ble_eq_true rfl), (Nat.le_of_ble_eq_true rfl)⟩)  rfl rfl hl.1 (Nat.le_of_ble_eq_true rfl) ⟨(Nat.le_of_ble_eq_true rfl), (Nat.le_of_ble_eq_true rfl)⟩ dX6_prefers_2 (fun H locs hR hS => ?_)
  refine lv_if_ne (tgt := 31) hx hb dX6_prefers_5 (by decide) (fun c_3 => ?_) (fun c_3 => ?_)
  · replace hf := ite_f c_3 hf
    refine lv_iconst (v := (1 : Int32)) hx hb dX6_prefers_31 (by decide) ?_
    refine lv_goto (tgt := 36) hx hb dX6_prefers_32 (by decide) ?_
    exact eZ X hR hS (by decide) (Option.some.inj hf) rfl dX6_prefers_36
  · replace hf := ite_t c_3 hf
    refine lv_aload_n hx hb dX6_prefers_8 rfl (lv_at hl 0 rfl) ?_
    refine lv_iload_n hx hb dX6_prefers_9 rfl (lv_at hl 1 rfl) ?_
    refine lv_aload_n hx hb dX6_prefers_10 rfl (lv_at hl 0 rfl) ?_
    refine lv_iload_n hx hb dX6_prefers_11 rfl (lv_at hl 1 rfl) ?_
    obtain ⟨r_4, hq_5, hf⟩ := bd1_some hf
    refine kSi (As := [.int x1]) (rest := [.ref (ad r0), .int x1, .ref (ad r0)]) X hR hS (zcX6_at l D cy ad ba O S x1 _ hq_5) (va_cwS 1 X.2.2.2.2.2.1 gX6_prefers_X6_at rfl rfl rfl kdX6_at.2 ⟨(Nat.le_of_ble_eq_true rfl), (Nat.le_of_ble_eq_true rfl)⟩)  rfl rfl hl.1 (Nat.le_of_ble_eq_true rfl) ⟨(Nat.le_of_ble_eq_true rfl), (Nat.le_of_ble_eq_true rfl)⟩ dX6_prefers_12 (fun H locs hR hS => ?_)
    refine lv_bipush (v := (8 : Int32)) hx hb dX6_prefers_15 (by decide) ?_
    refine lv_iadd hx hb dX6_prefers_17 ?_
    obtain ⟨h_6, hf⟩ := chk_some hf
    refine ra_int X hR (r := r0) hr0 h_6 dX6_prefers_18 ?_
    obtain ⟨r_7, hq_8, hf⟩ := bd1_some hf
    refine kSi (As := [.ref (ad r0), .int x1, .int (S r0 (r_4 + (8 : Int32)).toNatClampNeg)]) (rest := []) X hR hS (zcX6_score l D cy ad ba O S r0 x1 (S r0 (r_4 + (8 : Int32)).toNatClampNeg) hr0 _ hq_8) (va_cwS 3 X.2.2.2.2.2.1 gX6_prefers_X6_score rfl rfl rfl kdX6_score.2 ⟨(Nat.le_of_ble_eq_true rfl), (Nat.le_of_ble_eq_true rfl)⟩)  rfl rfl hl.1 (Nat.le_of_ble_eq_true rfl) ⟨(Nat.le_of_ble_eq_true rfl), (Nat.le_of_ble_eq_true rfl)⟩ dX6_prefers_19 (fun H locs hR hS => ?_)
    refine lv_aload_n hx hb dX6_prefers_22 rfl (lv_at hl 0 rfl) ?_
    refine lv_iload_n hx hb dX6_prefers_23 rfl (lv_at hl 1 rfl) ?_
    refine lv_iload_n hx hb dX6_prefers_24 rfl (lv_at hl 2 rfl) ?_
    obtain ⟨r_9, hq_10, hf⟩ := bd1_some hf
    refine kSi (As := [.ref (ad r0), .int x1, .int x2]) (rest := [.int r_7]) X hR hS (zcX6_score l D cy ad ba O S r0 x1 x2 hr0 _ hq_10) (va_cwS 3 X.2.2.2.2.2.1 gX6_prefers_X6_score rfl rfl rfl kdX6_score.2 ⟨(Nat.le_of_ble_eq_true rfl), (Nat.le_of_ble_eq_true rfl)⟩)  rfl rfl hl.1 (Nat.le_of_ble_eq_true rfl) ⟨(Nat.le_of_ble_eq_true rfl), (Nat.le_of_ble_eq_true rfl)⟩ dX6_prefers_25 (fun H locs hR hS => ?_)
    refine lv_icmp_ge (tgt := 35) hx hb dX6_prefers_28 (by decide) (fun c_11 => ?_) (fun c_11 => ?_)
    · replace hf := ite_t c_11 hf
      refine lv_iconst (v := (0 : Int32)) hx hb dX6_prefers_35 (by decide) ?_
      exact eZ X hR hS (by decide) (Option.some.inj hf) rfl dX6_prefers_36
    · replace hf := ite_f c_11 hf
      refine lv_iconst (v := (1 : Int32)) hx hb dX6_prefers_31 (by decide) ?_
      refine lv_goto (tgt := 36) hx hb dX6_prefers_32 (by decide) ?_
      exact eZ X hR hS (by decide) (Option.some.inj hf) rfl dX6_prefers_36
theorem zcX6_prefers (l : Launch) (D : va_G) (cy : Nat → ClassId) (ad : Nat → Nat) (ba : Nat) (O : Int64) (S : teS) (r0 : Nat) (x1 : Int32) (x2 : Int32) (hr0 : teK r0 = true) (res : Int32) (hf : fX6_prefers r0 x1 x2 S = some res) : cI l yX6_prefers wsX6_prefers rmX6_prefers D cy ad ba O S [.ref (ad r0), .int x1, .int x2] res S :=
  te_of (by decide +kernel) rfl (Nat.le_of_ble_eq_true rfl) (fun p e s m below meth c ls X hR hS hl => bX6_prefers_0 (S := S) (r0 := r0) (x1 := x1) (x2 := x2) hr0 X _ _ _ hR hS hl hf)
abbrev rmX6_block : Room := { frames := 4, cells := 0, slots := 0, locals := 87 }
theorem kdX6_block : yX6_block.cls = RX6 ∧ yX6_block.cls ≠ "java/lang/invoke/MethodHandle" ∧ yX6_block.cls ≠ "java/lang/invoke/VarHandle" ∧ (parseMethodDescriptor yX6_block.desc).map (fun d => d.parameters.length) = some 3 := by decide +kernel
set_option maxRecDepth 100000 in
set_option maxHeartbeats 4000000 in
theorem bX6_block_0 {p : Program} {l : Launch} {e : Env} {s : State} {m : MethodId} {args : Array Value} {below : List Frame} {meth : Method} {c : Code} {D : va_G} {cy : Nat → ClassId} {ad : Nat → Nat} {ba : Nat} {O : Int64} {S : teS}  {r0 : Nat} {x1 : Int32} {x2 : Int32} {res : Int32} (hr0 : teK r0 = true) (X : teC wsX6_block RX6 cX6_block 3 (some .boolean) D cy ba p s m args meth c) (H : Heap) (locs : List Loc) (ls : Array Slot) (hR : teR D cy ad ba O S H) (hS : va_S (teA ba) s.heap H locs) (hl : lv_has ls 3 [(0, .ref (ad r0)), (1, .int x1), (2, .int x2)]) (hf : fX6_block r0 x1 x2 S = some res) : W p l e (headSpec wsX6_block rmX6_block).room s m args below meth c H locs 0 0 (MQ below (va_Qi (fun a (u : teS) => a = res ∧ u = S) (fun u t => teR D cy ad ba O u t.heap) (teA ba)) args s 0 0 (teA ba)) (F0 m 0 ls []) := by
  have hx := X.1
  have hb := X.2.1
  have hown := X.2.2.2.2.1
  unfold fX6_block at hf
  refine lv_aload_n hx hb dX6_block_0 rfl (lv_at hl 0 rfl) ?_
  refine lv_iload_n hx hb dX6_block_1 rfl (lv_at hl 1 rfl) ?_
  refine lv_iload_n hx hb dX6_block_2 rfl (lv_at hl 2 rfl) ?_
  obtain ⟨r_1, hq_2, hf⟩ := bd1_some hf
  refine kSi (As := [.ref (ad r0), .int x1, .int x2]) (rest := []) X hR hS (zcX6_fit l D cy ad ba O S r0 x1 x2 hr0 _ hq_2) (va_cwS 3 X.2.2.2.2.2.1 gX6_block_X6_fit rfl rfl rfl kdX6_fit.2 ⟨(Nat.le_of_ble_eq_true rfl), (Nat.le_of_ble_eq_true rfl)⟩)  rfl rfl hl.1 (Nat.le_of_ble_eq_true rfl) ⟨(Nat.le_of_ble_eq_true rfl), (Nat.le_of_ble_eq_true rfl)⟩ dX6_block_3 (fun H locs hR hS => ?_)
  refine lv_if_eq (tgt := 44) hx hb dX6_block_6 (by decide) (fun c_3 => ?_) (fun c_3 => ?_)
  · replace hf := ite_t c_3 hf
    refine lv_iconst (v := (0 : Int32)) hx hb dX6_block_44 (by decide) ?_
    exact eZ X hR hS (by decide) (Option.some.inj hf) rfl dX6_block_45
  · replace hf := ite_f c_3 hf
    refine lv_aload_n hx hb dX6_block_9 rfl (lv_at hl 0 rfl) ?_
    refine lv_iload_n hx hb dX6_block_10 rfl (lv_at hl 1 rfl) ?_
    obtain ⟨r_4, hq_5, hf⟩ := bd1_some hf
    refine kSi (As := [.int x1]) (rest := [.ref (ad r0)]) X hR hS (zcX6_at l D cy ad ba O S x1 _ hq_5) (va_cwS 1 X.2.2.2.2.2.1 gX6_block_X6_at rfl rfl rfl kdX6_at.2 ⟨(Nat.le_of_ble_eq_true rfl), (Nat.le_of_ble_eq_true rfl)⟩)  rfl rfl hl.1 (Nat.le_of_ble_eq_true rfl) ⟨(Nat.le_of_ble_eq_true rfl), (Nat.le_of_ble_eq_true rfl)⟩ dX6_block_11 (fun H locs hR hS => ?_)
    refine lv_bipush (v := (8 : Int32)) hx hb dX6_block_14 (by decide) ?_
    refine lv_iadd hx hb dX6_block_16 ?_
    obtain ⟨h_6, hf⟩ := chk_some hf
    refine ra_int X hR (r := r0) hr0 h_6 dX6_block_17 ?_
    refine lv_iload_n hx hb dX6_block_18 rfl (lv_at hl 2 rfl) ?_
    refine lv_icmp_eq (tgt := 44) hx hb dX6_block_19 (by decide) (fun c_7 => ?_) (fun c_7 => ?_)
    · replace hf := ite_t c_7 hf
      refine lv_iconst (v := (0 : Int32)) hx hb dX6_block_44 (by decide) ?_
      exact eZ X hR hS (by decide) (Option.some.inj hf) rfl dX6_block_45
    · replace hf := ite_f c_7 hf
      refine lv_aload_n hx hb dX6_block_22 rfl (lv_at hl 0 rfl) ?_
      refine lv_iload_n hx hb dX6_block_23 rfl (lv_at hl 1 rfl) ?_
      refine lv_iload_n hx hb dX6_block_24 rfl (lv_at hl 2 rfl) ?_
      obtain ⟨r_8, hq_9, hf⟩ := bd1_some hf
      refine kSi (As := [.ref (ad r0), .int x1, .int x2]) (rest := []) X hR hS (zcX6_prefers l D cy ad ba O S r0 x1 x2 hr0 _ hq_9) (va_cwS 3 X.2.2.2.2.2.1 gX6_block_X6_prefers rfl rfl rfl kdX6_prefers.2 ⟨(Nat.le_of_ble_eq_true rfl), (Nat.le_of_ble_eq_true rfl)⟩)  rfl rfl hl.1 (Nat.le_of_ble_eq_true rfl) ⟨(Nat.le_of_ble_eq_true rfl), (Nat.le_of_ble_eq_true rfl)⟩ dX6_block_25 (fun H locs hR hS => ?_)
      refine lv_if_eq (tgt := 44) hx hb dX6_block_28 (by decide) (fun c_10 => ?_) (fun c_10 => ?_)
      · replace hf := ite_t c_10 hf
        refine lv_iconst (v := (0 : Int32)) hx hb dX6_block_44 (by decide) ?_
        exact eZ X hR hS (by decide) (Option.some.inj hf) rfl dX6_block_45
      · replace hf := ite_f c_10 hf
        refine lv_aload_n hx hb dX6_block_31 rfl (lv_at hl 0 rfl) ?_
        refine lv_iload_n hx hb dX6_block_32 rfl (lv_at hl 2 rfl) ?_
        refine lv_iload_n hx hb dX6_block_33 rfl (lv_at hl 1 rfl) ?_
        obtain ⟨r_11, hq_12, hf⟩ := bd1_some hf
        refine kSi (As := [.ref (ad r0), .int x2, .int x1]) (rest := []) X hR hS (zcX6_prefers l D cy ad ba O S r0 x2 x1 hr0 _ hq_12) (va_cwS 3 X.2.2.2.2.2.1 gX6_block_X6_prefers rfl rfl rfl kdX6_prefers.2 ⟨(Nat.le_of_ble_eq_true rfl), (Nat.le_of_ble_eq_true rfl)⟩)  rfl rfl hl.1 (Nat.le_of_ble_eq_true rfl) ⟨(Nat.le_of_ble_eq_true rfl), (Nat.le_of_ble_eq_true rfl)⟩ dX6_block_34 (fun H locs hR hS => ?_)
        refine lv_if_eq (tgt := 44) hx hb dX6_block_37 (by decide) (fun c_13 => ?_) (fun c_13 => ?_)
        · replace hf := ite_t c_13 hf
          refine lv_iconst (v := (0 : Int32)) hx hb dX6_block_44 (by decide) ?_
          exact eZ X hR hS (by decide) (Option.some.inj hf) rfl dX6_block_45
        · replace hf := ite_f c_13 hf
          refine lv_iconst (v := (1 : Int32)) hx hb dX6_block_40 (by decide) ?_
          refine lv_goto (tgt := 45) hx hb dX6_block_41 (by decide) ?_
          exact eZ X hR hS (by decide) (Option.some.inj hf) rfl dX6_block_45
theorem zcX6_block (l : Launch) (D : va_G) (cy : Nat → ClassId) (ad : Nat → Nat) (ba : Nat) (O : Int64) (S : teS) (r0 : Nat) (x1 : Int32) (x2 : Int32) (hr0 : teK r0 = true) (res : Int32) (hf : fX6_block r0 x1 x2 S = some res) : cI l yX6_block wsX6_block rmX6_block D cy ad ba O S [.ref (ad r0), .int x1, .int x2] res S :=
  te_of (by decide +kernel) rfl (Nat.le_of_ble_eq_true rfl) (fun p e s m below meth c ls X hR hS hl => bX6_block_0 (S := S) (r0 := r0) (x1 := x1) (x2 := x2) hr0 X _ _ _ hR hS hl hf)
abbrev rmX6_free : Room := { frames := 1, cells := 0, slots := 0, locals := 20 }
theorem kdX6_free : yX6_free.cls = RX6 ∧ yX6_free.cls ≠ "java/lang/invoke/MethodHandle" ∧ yX6_free.cls ≠ "java/lang/invoke/VarHandle" ∧ (parseMethodDescriptor yX6_free.desc).map (fun d => d.parameters.length) = some 2 := by decide +kernel
set_option maxRecDepth 100000 in
set_option maxHeartbeats 4000000 in
theorem bX6_free_0 {p : Program} {l : Launch} {e : Env} {s : State} {m : MethodId} {args : Array Value} {below : List Frame} {meth : Method} {c : Code} {D : va_G} {cy : Nat → ClassId} {ad : Nat → Nat} {ba : Nat} {O : Int64} {S : teS}  {r0 : Nat} {x1 : Int32} {res : teS} (hr0 : teK r0 = true) (X : teC wsX6_free RX6 cX6_free 2 none D cy ba p s m args meth c) (H : Heap) (locs : List Loc) (ls : Array Slot) (hR : teR D cy ad ba O S H) (hS : va_S (teA ba) s.heap H locs) (hl : lv_has ls 2 [(0, .ref (ad r0)), (1, .int x1)]) (hf : fX6_free r0 x1 S = some res) : W p l e (headSpec wsX6_free rmX6_free).room s m args below meth c H locs 0 0 (MQ below (va_Qv (fun (u : teS) => u = res) (fun u t => teR D cy ad ba O u t.heap) (teA ba)) args s 0 0 (teA ba)) (F0 m 0 ls []) := by
  have hx := X.1
  have hb := X.2.1
  have hown := X.2.2.2.2.1
  unfold fX6_free at hf
  refine lv_aload_n hx hb dX6_free_0 rfl (lv_at hl 0 rfl) ?_
  refine lv_iload_n hx hb dX6_free_1 rfl (lv_at hl 1 rfl) ?_
  obtain ⟨r_1, hq_2, hf⟩ := bd1_some hf
  refine kSi (As := [.int x1]) (rest := [.ref (ad r0)]) X hR hS (zcX6_at l D cy ad ba O S x1 _ hq_2) (va_cwS 1 X.2.2.2.2.2.1 gX6_free_X6_at rfl rfl rfl kdX6_at.2 ⟨(Nat.le_of_ble_eq_true rfl), (Nat.le_of_ble_eq_true rfl)⟩)  rfl rfl hl.1 (Nat.le_of_ble_eq_true rfl) ⟨(Nat.le_of_ble_eq_true rfl), (Nat.le_of_ble_eq_true rfl)⟩ dX6_free_2 (fun H locs hR hS => ?_)
  refine lv_bipush (v := (8 : Int32)) hx hb dX6_free_5 (by decide) ?_
  refine lv_iadd hx hb dX6_free_7 ?_
  refine lv_sipush (v := (-9999 : Int32)) hx hb dX6_free_8 (by decide) ?_
  obtain ⟨h_3, hf⟩ := chk_some hf
  refine rs_int X hR hS (r := r0) hr0 h_3 dX6_free_11 (fun H locs hR hS => ?_)
  generalize teu S r0 (r_1 + (8 : Int32)).toNatClampNeg (-9999 : Int32) = S1 at hf hR
  replace hf := lt1_e hf
  refine lv_aload_n hx hb dX6_free_12 rfl (lv_at hl 0 rfl) ?_
  refine lv_iload_n hx hb dX6_free_13 rfl (lv_at hl 1 rfl) ?_
  obtain ⟨r_4, hq_5, hf⟩ := bd1_some hf
  refine kSi (As := [.int x1]) (rest := [.ref (ad r0)]) X hR hS (zcX6_at l D cy ad ba O S1 x1 _ hq_5) (va_cwS 1 X.2.2.2.2.2.1 gX6_free_X6_at rfl rfl rfl kdX6_at.2 ⟨(Nat.le_of_ble_eq_true rfl), (Nat.le_of_ble_eq_true rfl)⟩)  rfl rfl hl.1 (Nat.le_of_ble_eq_true rfl) ⟨(Nat.le_of_ble_eq_true rfl), (Nat.le_of_ble_eq_true rfl)⟩ dX6_free_14 (fun H locs hR hS => ?_)
  refine lv_bipush (v := (9 : Int32)) hx hb dX6_free_17 (by decide) ?_
  refine lv_iadd hx hb dX6_free_19 ?_
  refine lv_iconst (v := (0 : Int32)) hx hb dX6_free_20 (by decide) ?_
  obtain ⟨h_6, hf⟩ := chk_some hf
  refine rs_int X hR hS (r := r0) hr0 h_6 dX6_free_21 (fun H locs hR hS => ?_)
  generalize teu S1 r0 (r_4 + (9 : Int32)).toNatClampNeg (0 : Int32) = S2 at hf hR
  replace hf := lt1_e hf
  exact eV X hR hS (Option.some.inj hf) dX6_free_22
theorem zcX6_free (l : Launch) (D : va_G) (cy : Nat → ClassId) (ad : Nat → Nat) (ba : Nat) (O : Int64) (S : teS) (r0 : Nat) (x1 : Int32) (hr0 : teK r0 = true) (res : teS) (hf : fX6_free r0 x1 S = some res) : cV l yX6_free wsX6_free rmX6_free D cy ad ba O S [.ref (ad r0), .int x1] res :=
  te_of (by decide +kernel) rfl (Nat.le_of_ble_eq_true rfl) (fun p e s m below meth c ls X hR hS hl => bX6_free_0 (S := S) (r0 := r0) (x1 := x1) hr0 X _ _ _ hR hS hl hf)
abbrev rmX6_partOn : Room := { frames := 2, cells := 0, slots := 0, locals := 41 }
theorem kdX6_partOn : yX6_partOn.cls = RX6 ∧ yX6_partOn.cls ≠ "java/lang/invoke/MethodHandle" ∧ yX6_partOn.cls ≠ "java/lang/invoke/VarHandle" ∧ (parseMethodDescriptor yX6_partOn.desc).map (fun d => d.parameters.length) = some 2 := by decide +kernel
set_option maxRecDepth 100000 in
set_option maxHeartbeats 4000000 in
theorem bX6_partOn_0 {p : Program} {l : Launch} {e : Env} {s : State} {m : MethodId} {args : Array Value} {below : List Frame} {meth : Method} {c : Code} {D : va_G} {cy : Nat → ClassId} {ad : Nat → Nat} {ba : Nat} {O : Int64} {S : teS}  {r0 : Nat} {x1 : Int32} {res : teS} (hr0 : teK r0 = true) (X : teC wsX6_partOn RX6 cX6_partOn 3 none D cy ba p s m args meth c) (H : Heap) (locs : List Loc) (ls : Array Slot) (hR : teR D cy ad ba O S H) (hS : va_S (teA ba) s.heap H locs) (hl : lv_has ls 3 [(0, .ref (ad r0)), (1, .int x1)]) (hf : fX6_partOn r0 x1 S = some res) : W p l e (headSpec wsX6_partOn rmX6_partOn).room s m args below meth c H locs 0 0 (MQ below (va_Qv (fun (u : teS) => u = res) (fun u t => teR D cy ad ba O u t.heap) (teA ba)) args s 0 0 (teA ba)) (F0 m 0 ls []) := by
  have hx := X.1
  have hb := X.2.1
  have hown := X.2.2.2.2.1
  unfold fX6_partOn at hf
  refine lv_aload_n hx hb dX6_partOn_0 rfl (lv_at hl 0 rfl) ?_
  refine lv_iload_n hx hb dX6_partOn_1 rfl (lv_at hl 1 rfl) ?_
  obtain ⟨r_1, hq_2, hf⟩ := bd1_some hf
  refine kSi (As := [.int x1]) (rest := [.ref (ad r0)]) X hR hS (zcX6_at l D cy ad ba O S x1 _ hq_2) (va_cwS 1 X.2.2.2.2.2.1 gX6_partOn_X6_at rfl rfl rfl kdX6_at.2 ⟨(Nat.le_of_ble_eq_true rfl), (Nat.le_of_ble_eq_true rfl)⟩)  rfl rfl hl.1 (Nat.le_of_ble_eq_true rfl) ⟨(Nat.le_of_ble_eq_true rfl), (Nat.le_of_ble_eq_true rfl)⟩ dX6_partOn_2 (fun H locs hR hS => ?_)
  refine lv_bipush (v := (8 : Int32)) hx hb dX6_partOn_5 (by decide) ?_
  refine lv_iadd hx hb dX6_partOn_7 ?_
  obtain ⟨h_3, hf⟩ := chk_some hf
  refine ra_int X hR (r := r0) hr0 h_3 dX6_partOn_8 ?_
  refine lv_istore_n (lv' := [(2, .int (S r0 (r_1 + (8 : Int32)).toNatClampNeg)), (0, .ref (ad r0)), (1, .int x1)]) hx hb dX6_partOn_9 rfl hl (by decide) rfl (fun ls hl => ?_)
  refine lv_iload_n hx hb dX6_partOn_10 rfl (lv_at hl 0 rfl) ?_
  refine lv_sipush (v := (-9999 : Int32)) hx hb dX6_partOn_11 (by decide) ?_
  refine lv_icmp_eq (tgt := 27) hx hb dX6_partOn_14 (by decide) (fun c_4 => ?_) (fun c_4 => ?_)
  · replace hf := ite_t c_4 hf
    exact eV X hR hS (Option.some.inj hf) dX6_partOn_27
  · replace hf := ite_f c_4 hf
    refine lv_aload_n hx hb dX6_partOn_17 rfl (lv_at hl 1 rfl) ?_
    refine lv_iload_n hx hb dX6_partOn_18 rfl (lv_at hl 2 rfl) ?_
    obtain ⟨S1, hq_6, hf⟩ := bd1_some hf
    refine kSv (As := [.ref (ad r0), .int x1]) (rest := []) X hR hS (zcX6_free l D cy ad ba O S r0 x1 hr0 _ hq_6) (va_cwS 2 X.2.2.2.2.2.1 gX6_partOn_X6_free rfl rfl rfl kdX6_free.2 ⟨(Nat.le_of_ble_eq_true rfl), (Nat.le_of_ble_eq_true rfl)⟩)  rfl rfl hl.1 (Nat.le_of_ble_eq_true rfl) ⟨(Nat.le_of_ble_eq_true rfl), (Nat.le_of_ble_eq_true rfl)⟩ dX6_partOn_19 (fun H locs hR hS => ?_)
    refine lv_aload_n hx hb dX6_partOn_22 rfl (lv_at hl 1 rfl) ?_
    refine lv_iload_n hx hb dX6_partOn_23 rfl (lv_at hl 0 rfl) ?_
    obtain ⟨S2, hq_8, hf⟩ := bd1_some hf
    refine kSv (As := [.ref (ad r0), .int (S r0 (r_1 + (8 : Int32)).toNatClampNeg)]) (rest := []) X hR hS (zcX6_free l D cy ad ba O S1 r0 (S r0 (r_1 + (8 : Int32)).toNatClampNeg) hr0 _ hq_8) (va_cwS 2 X.2.2.2.2.2.1 gX6_partOn_X6_free rfl rfl rfl kdX6_free.2 ⟨(Nat.le_of_ble_eq_true rfl), (Nat.le_of_ble_eq_true rfl)⟩)  rfl rfl hl.1 (Nat.le_of_ble_eq_true rfl) ⟨(Nat.le_of_ble_eq_true rfl), (Nat.le_of_ble_eq_true rfl)⟩ dX6_partOn_24 (fun H locs hR hS => ?_)
    exact eV X hR hS (Option.some.inj hf) dX6_partOn_27
theorem zcX6_partOn (l : Launch) (D : va_G) (cy : Nat → ClassId) (ad : Nat → Nat) (ba : Nat) (O : Int64) (S : teS) (r0 : Nat) (x1 : Int32) (hr0 : teK r0 = true) (res : teS) (hf : fX6_partOn r0 x1 S = some res) : cV l yX6_partOn wsX6_partOn rmX6_partOn D cy ad ba O S [.ref (ad r0), .int x1] res :=
  te_of (by decide +kernel) rfl (Nat.le_of_ble_eq_true rfl) (fun p e s m below meth c ls X hR hS hl => bX6_partOn_0 (S := S) (r0 := r0) (x1 := x1) hr0 X _ _ _ hR hS hl hf)
abbrev rmX6_pairOn : Room := { frames := 3, cells := 0, slots := 0, locals := 63 }
theorem kdX6_pairOn : yX6_pairOn.cls = RX6 ∧ yX6_pairOn.cls ≠ "java/lang/invoke/MethodHandle" ∧ yX6_pairOn.cls ≠ "java/lang/invoke/VarHandle" ∧ (parseMethodDescriptor yX6_pairOn.desc).map (fun d => d.parameters.length) = some 3 := by decide +kernel
set_option maxRecDepth 100000 in
set_option maxHeartbeats 4000000 in
theorem bX6_pairOn_0 {p : Program} {l : Launch} {e : Env} {s : State} {m : MethodId} {args : Array Value} {below : List Frame} {meth : Method} {c : Code} {D : va_G} {cy : Nat → ClassId} {ad : Nat → Nat} {ba : Nat} {O : Int64} {S : teS}  {r0 : Nat} {x1 : Int32} {x2 : Int32} {res : teS} (hr0 : teK r0 = true) (X : teC wsX6_pairOn RX6 cX6_pairOn 3 none D cy ba p s m args meth c) (H : Heap) (locs : List Loc) (ls : Array Slot) (hR : teR D cy ad ba O S H) (hS : va_S (teA ba) s.heap H locs) (hl : lv_has ls 3 [(0, .ref (ad r0)), (1, .int x1), (2, .int x2)]) (hf : fX6_pairOn r0 x1 x2 S = some res) : W p l e (headSpec wsX6_pairOn rmX6_pairOn).room s m args below meth c H locs 0 0 (MQ below (va_Qv (fun (u : teS) => u = res) (fun u t => teR D cy ad ba O u t.heap) (teA ba)) args s 0 0 (teA ba)) (F0 m 0 ls []) := by
  have hx := X.1
  have hb := X.2.1
  have hown := X.2.2.2.2.1
  unfold fX6_pairOn at hf
  refine lv_aload_n hx hb dX6_pairOn_0 rfl (lv_at hl 0 rfl) ?_
  refine lv_iload_n hx hb dX6_pairOn_1 rfl (lv_at hl 1 rfl) ?_
  obtain ⟨S1, hq_2, hf⟩ := bd1_some hf
  refine kSv (As := [.ref (ad r0), .int x1]) (rest := []) X hR hS (zcX6_partOn l D cy ad ba O S r0 x1 hr0 _ hq_2) (va_cwS 2 X.2.2.2.2.2.1 gX6_pairOn_X6_partOn rfl rfl rfl kdX6_partOn.2 ⟨(Nat.le_of_ble_eq_true rfl), (Nat.le_of_ble_eq_true rfl)⟩)  rfl rfl hl.1 (Nat.le_of_ble_eq_true rfl) ⟨(Nat.le_of_ble_eq_true rfl), (Nat.le_of_ble_eq_true rfl)⟩ dX6_pairOn_2 (fun H locs hR hS => ?_)
  refine lv_aload_n hx hb dX6_pairOn_5 rfl (lv_at hl 0 rfl) ?_
  refine lv_iload_n hx hb dX6_pairOn_6 rfl (lv_at hl 2 rfl) ?_
  obtain ⟨S2, hq_4, hf⟩ := bd1_some hf
  refine kSv (As := [.ref (ad r0), .int x2]) (rest := []) X hR hS (zcX6_partOn l D cy ad ba O S1 r0 x2 hr0 _ hq_4) (va_cwS 2 X.2.2.2.2.2.1 gX6_pairOn_X6_partOn rfl rfl rfl kdX6_partOn.2 ⟨(Nat.le_of_ble_eq_true rfl), (Nat.le_of_ble_eq_true rfl)⟩)  rfl rfl hl.1 (Nat.le_of_ble_eq_true rfl) ⟨(Nat.le_of_ble_eq_true rfl), (Nat.le_of_ble_eq_true rfl)⟩ dX6_pairOn_7 (fun H locs hR hS => ?_)
  refine lv_aload_n hx hb dX6_pairOn_10 rfl (lv_at hl 0 rfl) ?_
  refine lv_iload_n hx hb dX6_pairOn_11 rfl (lv_at hl 1 rfl) ?_
  obtain ⟨r_5, hq_6, hf⟩ := bd1_some hf
  refine kSi (As := [.int x1]) (rest := [.ref (ad r0)]) X hR hS (zcX6_at l D cy ad ba O S2 x1 _ hq_6) (va_cwS 1 X.2.2.2.2.2.1 gX6_pairOn_X6_at rfl rfl rfl kdX6_at.2 ⟨(Nat.le_of_ble_eq_true rfl), (Nat.le_of_ble_eq_true rfl)⟩)  rfl rfl hl.1 (Nat.le_of_ble_eq_true rfl) ⟨(Nat.le_of_ble_eq_true rfl), (Nat.le_of_ble_eq_true rfl)⟩ dX6_pairOn_12 (fun H locs hR hS => ?_)
  refine lv_bipush (v := (8 : Int32)) hx hb dX6_pairOn_15 (by decide) ?_
  refine lv_iadd hx hb dX6_pairOn_17 ?_
  refine lv_iload_n hx hb dX6_pairOn_18 rfl (lv_at hl 2 rfl) ?_
  obtain ⟨h_7, hf⟩ := chk_some hf
  refine rs_int X hR hS (r := r0) hr0 h_7 dX6_pairOn_19 (fun H locs hR hS => ?_)
  generalize teu S2 r0 (r_5 + (8 : Int32)).toNatClampNeg x2 = S3 at hf hR
  replace hf := lt1_e hf
  refine lv_aload_n hx hb dX6_pairOn_20 rfl (lv_at hl 0 rfl) ?_
  refine lv_iload_n hx hb dX6_pairOn_21 rfl (lv_at hl 2 rfl) ?_
  obtain ⟨r_8, hq_9, hf⟩ := bd1_some hf
  refine kSi (As := [.int x2]) (rest := [.ref (ad r0)]) X hR hS (zcX6_at l D cy ad ba O S3 x2 _ hq_9) (va_cwS 1 X.2.2.2.2.2.1 gX6_pairOn_X6_at rfl rfl rfl kdX6_at.2 ⟨(Nat.le_of_ble_eq_true rfl), (Nat.le_of_ble_eq_true rfl)⟩)  rfl rfl hl.1 (Nat.le_of_ble_eq_true rfl) ⟨(Nat.le_of_ble_eq_true rfl), (Nat.le_of_ble_eq_true rfl)⟩ dX6_pairOn_22 (fun H locs hR hS => ?_)
  refine lv_bipush (v := (8 : Int32)) hx hb dX6_pairOn_25 (by decide) ?_
  refine lv_iadd hx hb dX6_pairOn_27 ?_
  refine lv_iload_n hx hb dX6_pairOn_28 rfl (lv_at hl 1 rfl) ?_
  obtain ⟨h_10, hf⟩ := chk_some hf
  refine rs_int X hR hS (r := r0) hr0 h_10 dX6_pairOn_29 (fun H locs hR hS => ?_)
  generalize teu S3 r0 (r_8 + (8 : Int32)).toNatClampNeg x1 = S4 at hf hR
  replace hf := lt1_e hf
  exact eV X hR hS (Option.some.inj hf) dX6_pairOn_30
theorem zcX6_pairOn (l : Launch) (D : va_G) (cy : Nat → ClassId) (ad : Nat → Nat) (ba : Nat) (O : Int64) (S : teS) (r0 : Nat) (x1 : Int32) (x2 : Int32) (hr0 : teK r0 = true) (res : teS) (hf : fX6_pairOn r0 x1 x2 S = some res) : cV l yX6_pairOn wsX6_pairOn rmX6_pairOn D cy ad ba O S [.ref (ad r0), .int x1, .int x2] res :=
  te_of (by decide +kernel) rfl (Nat.le_of_ble_eq_true rfl) (fun p e s m below meth c ls X hR hS hl => bX6_pairOn_0 (S := S) (r0 := r0) (x1 := x1) (x2 := x2) hr0 X _ _ _ hR hS hl hf)
abbrev rmX6_mend : Room := { frames := 3, cells := 0, slots := 0, locals := 65 }
theorem kdX6_mend : yX6_mend.cls = RX6 ∧ yX6_mend.cls ≠ "java/lang/invoke/MethodHandle" ∧ yX6_mend.cls ≠ "java/lang/invoke/VarHandle" ∧ (parseMethodDescriptor yX6_mend.desc).map (fun d => d.parameters.length) = some 2 := by decide +kernel
set_option maxRecDepth 100000 in
set_option maxHeartbeats 4000000 in
theorem bX6_mend_0 {p : Program} {l : Launch} {e : Env} {s : State} {m : MethodId} {args : Array Value} {below : List Frame} {meth : Method} {c : Code} {D : va_G} {cy : Nat → ClassId} {ad : Nat → Nat} {ba : Nat} {O : Int64} {S : teS}  {r0 : Nat} {x1 : Int32} {res : teS} (hr0 : teK r0 = true) (X : teC wsX6_mend RX6 cX6_mend 3 none D cy ba p s m args meth c) (H : Heap) (locs : List Loc) (ls : Array Slot) (hR : teR D cy ad ba O S H) (hS : va_S (teA ba) s.heap H locs) (hl : lv_has ls 3 [(0, .ref (ad r0)), (1, .int x1)]) (hf : fX6_mend r0 x1 S = some res) : W p l e (headSpec wsX6_mend rmX6_mend).room s m args below meth c H locs 0 0 (MQ below (va_Qv (fun (u : teS) => u = res) (fun u t => teR D cy ad ba O u t.heap) (teA ba)) args s 0 0 (teA ba)) (F0 m 0 ls []) := by
  have hx := X.1
  have hb := X.2.1
  have hown := X.2.2.2.2.1
  unfold fX6_mend at hf
  refine lv_aload_n hx hb dX6_mend_0 rfl (lv_at hl 0 rfl) ?_
  refine lv_iload_n hx hb dX6_mend_1 rfl (lv_at hl 1 rfl) ?_
  obtain ⟨r_1, hq_2, hf⟩ := bd1_some hf
  refine kSi (As := [.int x1]) (rest := [.ref (ad r0)]) X hR hS (zcX6_at l D cy ad ba O S x1 _ hq_2) (va_cwS 1 X.2.2.2.2.2.1 gX6_mend_X6_at rfl rfl rfl kdX6_at.2 ⟨(Nat.le_of_ble_eq_true rfl), (Nat.le_of_ble_eq_true rfl)⟩)  rfl rfl hl.1 (Nat.le_of_ble_eq_true rfl) ⟨(Nat.le_of_ble_eq_true rfl), (Nat.le_of_ble_eq_true rfl)⟩ dX6_mend_2 (fun H locs hR hS => ?_)
  refine lv_bipush (v := (8 : Int32)) hx hb dX6_mend_5 (by decide) ?_
  refine lv_iadd hx hb dX6_mend_7 ?_
  obtain ⟨h_3, hf⟩ := chk_some hf
  refine ra_int X hR (r := r0) hr0 h_3 dX6_mend_8 ?_
  refine lv_istore_n (lv' := [(2, .int (S r0 (r_1 + (8 : Int32)).toNatClampNeg)), (0, .ref (ad r0)), (1, .int x1)]) hx hb dX6_mend_9 rfl hl (by decide) rfl (fun ls hl => ?_)
  refine lv_iload_n hx hb dX6_mend_10 rfl (lv_at hl 0 rfl) ?_
  refine lv_sipush (v := (-9999 : Int32)) hx hb dX6_mend_11 (by decide) ?_
  refine lv_icmp_eq (tgt := 31) hx hb dX6_mend_14 (by decide) (fun c_4 => ?_) (fun c_4 => ?_)
  · replace hf := ite_t c_4 hf
    exact eV X hR hS (Option.some.inj hf) dX6_mend_31
  · replace hf := ite_f c_4 hf
    refine lv_aload_n hx hb dX6_mend_17 rfl (lv_at hl 1 rfl) ?_
    refine lv_iload_n hx hb dX6_mend_18 rfl (lv_at hl 2 rfl) ?_
    refine lv_iload_n hx hb dX6_mend_19 rfl (lv_at hl 0 rfl) ?_
    obtain ⟨r_5, hq_6, hf⟩ := bd1_some hf
    refine kSi (As := [.ref (ad r0), .int x1, .int (S r0 (r_1 + (8 : Int32)).toNatClampNeg)]) (rest := []) X hR hS (zcX6_fit l D cy ad ba O S r0 x1 (S r0 (r_1 + (8 : Int32)).toNatClampNeg) hr0 _ hq_6) (va_cwS 3 X.2.2.2.2.2.1 gX6_mend_X6_fit rfl rfl rfl kdX6_fit.2 ⟨(Nat.le_of_ble_eq_true rfl), (Nat.le_of_ble_eq_true rfl)⟩)  rfl rfl hl.1 (Nat.le_of_ble_eq_true rfl) ⟨(Nat.le_of_ble_eq_true rfl), (Nat.le_of_ble_eq_true rfl)⟩ dX6_mend_20 (fun H locs hR hS => ?_)
    refine lv_if_ne (tgt := 31) hx hb dX6_mend_23 (by decide) (fun c_7 => ?_) (fun c_7 => ?_)
    · replace hf := ite_f c_7 hf
      exact eV X hR hS (Option.some.inj hf) dX6_mend_31
    · replace hf := ite_t c_7 hf
      refine lv_aload_n hx hb dX6_mend_26 rfl (lv_at hl 1 rfl) ?_
      refine lv_iload_n hx hb dX6_mend_27 rfl (lv_at hl 2 rfl) ?_
      obtain ⟨S1, hq_9, hf⟩ := bd1_some hf
      refine kSv (As := [.ref (ad r0), .int x1]) (rest := []) X hR hS (zcX6_partOn l D cy ad ba O S r0 x1 hr0 _ hq_9) (va_cwS 2 X.2.2.2.2.2.1 gX6_mend_X6_partOn rfl rfl rfl kdX6_partOn.2 ⟨(Nat.le_of_ble_eq_true rfl), (Nat.le_of_ble_eq_true rfl)⟩)  rfl rfl hl.1 (Nat.le_of_ble_eq_true rfl) ⟨(Nat.le_of_ble_eq_true rfl), (Nat.le_of_ble_eq_true rfl)⟩ dX6_mend_28 (fun H locs hR hS => ?_)
      exact eV X hR hS (Option.some.inj hf) dX6_mend_31
theorem zcX6_mend (l : Launch) (D : va_G) (cy : Nat → ClassId) (ad : Nat → Nat) (ba : Nat) (O : Int64) (S : teS) (r0 : Nat) (x1 : Int32) (hr0 : teK r0 = true) (res : teS) (hf : fX6_mend r0 x1 S = some res) : cV l yX6_mend wsX6_mend rmX6_mend D cy ad ba O S [.ref (ad r0), .int x1] res :=
  te_of (by decide +kernel) rfl (Nat.le_of_ble_eq_true rfl) (fun p e s m below meth c ls X hR hS hl => bX6_mend_0 (S := S) (r0 := r0) (x1 := x1) hr0 X _ _ _ hR hS hl hf)
abbrev rmX6_matchOn : Room := { frames := 4, cells := 0, slots := 0, locals := 87 }
theorem kdX6_matchOn : yX6_matchOn.cls = RX6 ∧ yX6_matchOn.cls ≠ "java/lang/invoke/MethodHandle" ∧ yX6_matchOn.cls ≠ "java/lang/invoke/VarHandle" ∧ (parseMethodDescriptor yX6_matchOn.desc).map (fun d => d.parameters.length) = some 1 := by decide +kernel
set_option maxRecDepth 100000 in
set_option maxHeartbeats 4000000 in
theorem bX6_matchOn_76 {p : Program} {l : Launch} {e : Env} {s : State} {m : MethodId} {args : Array Value} {below : List Frame} {meth : Method} {c : Code} {D : va_G} {cy : Nat → ClassId} {ad : Nat → Nat} {ba : Nat} {O : Int64} {S : teS}  {r0 : Nat} {res : (Int32 × teS)} (hr0 : teK r0 = true) (X : teC wsX6_matchOn RX6 cX6_matchOn 8 (some .int) D cy ba p s m args meth c) {q4 : teS → Int32 → Int32 → Option (Int32 × teS)} (hq4 : ∀ (S1 : teS) (v1 : Int32) (v2 : Int32) (H : Heap) (locs : List Loc) (ls : Array Slot), teR D cy ad ba O S1 H → va_S (teA ba) s.heap H locs → lv_has ls 8 [(0, .ref (ad r0)), (1, .int v1), (2, .int v2)] → q4 S1 v1 v2 = some res → W p l e (headSpec wsX6_matchOn rmX6_matchOn).room s m args below meth c H locs 0 0 (MQ below (va_Qi (fun a (u : teS) => a = res.1 ∧ u = res.2) (fun u t => teR D cy ad ba O u t.heap) (teA ba)) args s 0 0 (teA ba)) (F0 m 4 ls [])) {q20 : teS → Int32 → Int32 → Int32 → Int32 → Option (Int32 × teS)} (hq20 : ∀ (S1 : teS) (v1 : Int32) (v3 : Int32) (v4 : Int32) (v5 : Int32) (H : Heap) (locs : List Loc) (ls : Array Slot), teR D cy ad ba O S1 H → va_S (teA ba) s.heap H locs → lv_has ls 8 [(0, .ref (ad r0)), (1, .int v1), (3, .int v3), (4, .int v4), (5, .int v5)] → q20 S1 v1 v3 v4 v5 = some res → W p l e (headSpec wsX6_matchOn rmX6_matchOn).room s m args below meth c H locs 0 0 (MQ below (va_Qi (fun a (u : teS) => a = res.1 ∧ u = res.2) (fun u t => teR D cy ad ba O u t.heap) (teA ba)) args s 0 0 (teA ba)) (F0 m 20 ls [])) {q34 : teS → Int32 → Int32 → Int32 → Int32 → Int32 → Option (Int32 × teS)} (hq34 : ∀ (S1 : teS) (v1 : Int32) (v3 : Int32) (v4 : Int32) (v5 : Int32) (v6 : Int32) (H : Heap) (locs : List Loc) (ls : Array Slot), teR D cy ad ba O S1 H → va_S (teA ba) s.heap H locs → lv_has ls 8 [(0, .ref (ad r0)), (1, .int v1), (3, .int v3), (4, .int v4), (5, .int v5), (6, .int v6)] → q34 S1 v1 v3 v4 v5 v6 = some res → W p l e (headSpec wsX6_matchOn rmX6_matchOn).room s m args below meth c H locs 0 0 (MQ below (va_Qi (fun a (u : teS) => a = res.1 ∧ u = res.2) (fun u t => teR D cy ad ba O u t.heap) (teA ba)) args s 0 0 (teA ba)) (F0 m 34 ls [])) : ∀ (S1 : teS) (v1 : Int32) (v3 : Int32) (v4 : Int32) (v5 : Int32) (v6 : Int32) (y0 : Int32) (H : Heap) (locs : List Loc) (ls : Array Slot), teR D cy ad ba O S1 H → va_S (teA ba) s.heap H locs → lv_has ls 8 [(0, .ref (ad r0)), (1, .int v1), (3, .int v3), (4, .int v4), (5, .int v5), (6, .int v6)] → fX6_matchOn_76 r0 q4 q20 q34 S1 v1 v3 v4 v5 v6 y0 = some res → W p l e (headSpec wsX6_matchOn rmX6_matchOn).room s m args below meth c H locs 0 0 (MQ below (va_Qi (fun a (u : teS) => a = res.1 ∧ u = res.2) (fun u t => teR D cy ad ba O u t.heap) (teA ba)) args s 0 0 (teA ba)) (F0 m 76 ls [.int y0]) := by
  have hx := X.1
  have hb := X.2.1
  have hown := X.2.2.2.2.1
  intro S1 v1 v3 v4 v5 v6 y0 H locs ls hR hS hl hf
  unfold fX6_matchOn_76 at hf
  refine lv_istore (lv' := [(7, .int y0), (0, .ref (ad r0)), (1, .int v1), (3, .int v3), (4, .int v4), (5, .int v5), (6, .int v6)]) hx hb dX6_matchOn_76 hl (by decide) rfl (fun ls hl => ?_)
  refine lv_iload hx hb dX6_matchOn_78 (lv_at hl 0 rfl) ?_
  refine lv_if_eq (tgt := 115) hx hb dX6_matchOn_80 (by decide) (fun c_19 => ?_) (fun c_19 => ?_)
  · replace hf := ite_t c_19 hf
    refine lv_iinc (v := (v6 + (1 : Int32))) (lv' := [(6, .int (v6 + (1 : Int32))), (7, .int y0), (0, .ref (ad r0)), (1, .int v1), (3, .int v3), (4, .int v4), (5, .int v5)]) hx hb dX6_matchOn_115 hl (k := 6) rfl rfl (by decide) rfl (fun ls hl => ?_)
    refine lv_goto (tgt := 34) hx hb dX6_matchOn_118 (by decide) ?_
    exact hq34 S1 (v1) (v3) (v4) (v5) ((v6 + (1 : Int32))) _ _ _ hR hS (lv_sub hl [2, 3, 4, 5, 6, 0] rfl) hf
  · replace hf := ite_f c_19 hf
    refine lv_iload_n hx hb dX6_matchOn_83 rfl (lv_at hl 3 rfl) ?_
    refine lv_sipush (v := (-9999 : Int32)) hx hb dX6_matchOn_84 (by decide) ?_
    refine lv_icmp_eq (tgt := 108) hx hb dX6_matchOn_87 (by decide) (fun c_20 => ?_) (fun c_20 => ?_)
    · replace hf := ite_t c_20 hf
      refine lv_iload hx hb dX6_matchOn_108 (lv_at hl 5 rfl) ?_
      refine lv_istore_n (lv' := [(3, .int v5), (7, .int y0), (0, .ref (ad r0)), (1, .int v1), (4, .int v4), (5, .int v5), (6, .int v6)]) hx hb dX6_matchOn_110 rfl hl (by decide) rfl (fun ls hl => ?_)
      refine lv_iload hx hb dX6_matchOn_111 (lv_at hl 6 rfl) ?_
      refine lv_istore (lv' := [(4, .int v6), (3, .int v5), (7, .int y0), (0, .ref (ad r0)), (1, .int v1), (5, .int v5), (6, .int v6)]) hx hb dX6_matchOn_113 hl (by decide) rfl (fun ls hl => ?_)
      refine lv_iinc (v := (v6 + (1 : Int32))) (lv' := [(6, .int (v6 + (1 : Int32))), (4, .int v6), (3, .int v5), (7, .int y0), (0, .ref (ad r0)), (1, .int v1), (5, .int v5)]) hx hb dX6_matchOn_115 hl (k := 6) rfl rfl (by decide) rfl (fun ls hl => ?_)
      refine lv_goto (tgt := 34) hx hb dX6_matchOn_118 (by decide) ?_
      exact hq34 S1 (v1) (v5) (v6) (v5) ((v6 + (1 : Int32))) _ _ _ hR hS (lv_sub hl [4, 5, 2, 1, 6, 0] rfl) hf
    · replace hf := ite_f c_20 hf
      refine lv_aload_n hx hb dX6_matchOn_90 rfl (lv_at hl 1 rfl) ?_
      refine lv_iload hx hb dX6_matchOn_91 (lv_at hl 5 rfl) ?_
      refine lv_iload hx hb dX6_matchOn_93 (lv_at hl 6 rfl) ?_
      obtain ⟨r_21, hq_22, hf⟩ := bd1_some hf
      refine kSi (As := [.ref (ad r0), .int v5, .int v6]) (rest := []) X hR hS (zcX6_valueOf l D cy ad ba O S1 r0 v5 v6 hr0 _ hq_22) (va_cwS 3 X.2.2.2.2.2.1 gX6_matchOn_X6_valueOf rfl rfl rfl kdX6_valueOf.2 ⟨(Nat.le_of_ble_eq_true rfl), (Nat.le_of_ble_eq_true rfl)⟩)  rfl rfl hl.1 (Nat.le_of_ble_eq_true rfl) ⟨(Nat.le_of_ble_eq_true rfl), (Nat.le_of_ble_eq_true rfl)⟩ dX6_matchOn_95 (fun H locs hR hS => ?_)
      refine lv_aload_n hx hb dX6_matchOn_98 rfl (lv_at hl 1 rfl) ?_
      refine lv_iload_n hx hb dX6_matchOn_99 rfl (lv_at hl 3 rfl) ?_
      refine lv_iload hx hb dX6_matchOn_100 (lv_at hl 4 rfl) ?_
      obtain ⟨r_23, hq_24, hf⟩ := bd1_some hf
      refine kSi (As := [.ref (ad r0), .int v3, .int v4]) (rest := [.int r_21]) X hR hS (zcX6_valueOf l D cy ad ba O S1 r0 v3 v4 hr0 _ hq_24) (va_cwS 3 X.2.2.2.2.2.1 gX6_matchOn_X6_valueOf rfl rfl rfl kdX6_valueOf.2 ⟨(Nat.le_of_ble_eq_true rfl), (Nat.le_of_ble_eq_true rfl)⟩)  rfl rfl hl.1 (Nat.le_of_ble_eq_true rfl) ⟨(Nat.le_of_ble_eq_true rfl), (Nat.le_of_ble_eq_true rfl)⟩ dX6_matchOn_102 (fun H locs hR hS => ?_)
      refine lv_icmp_le (tgt := 115) hx hb dX6_matchOn_105 (by decide) (fun c_25 => ?_) (fun c_25 => ?_)
      · replace hf := ite_t c_25 hf
        refine lv_iinc (v := (v6 + (1 : Int32))) (lv' := [(6, .int (v6 + (1 : Int32))), (7, .int y0), (0, .ref (ad r0)), (1, .int v1), (3, .int v3), (4, .int v4), (5, .int v5)]) hx hb dX6_matchOn_115 hl (k := 6) rfl rfl (by decide) rfl (fun ls hl => ?_)
        refine lv_goto (tgt := 34) hx hb dX6_matchOn_118 (by decide) ?_
        exact hq34 S1 (v1) (v3) (v4) (v5) ((v6 + (1 : Int32))) _ _ _ hR hS (lv_sub hl [2, 3, 4, 5, 6, 0] rfl) hf
      · replace hf := ite_f c_25 hf
        refine lv_iload hx hb dX6_matchOn_108 (lv_at hl 5 rfl) ?_
        refine lv_istore_n (lv' := [(3, .int v5), (7, .int y0), (0, .ref (ad r0)), (1, .int v1), (4, .int v4), (5, .int v5), (6, .int v6)]) hx hb dX6_matchOn_110 rfl hl (by decide) rfl (fun ls hl => ?_)
        refine lv_iload hx hb dX6_matchOn_111 (lv_at hl 6 rfl) ?_
        refine lv_istore (lv' := [(4, .int v6), (3, .int v5), (7, .int y0), (0, .ref (ad r0)), (1, .int v1), (5, .int v5), (6, .int v6)]) hx hb dX6_matchOn_113 hl (by decide) rfl (fun ls hl => ?_)
        refine lv_iinc (v := (v6 + (1 : Int32))) (lv' := [(6, .int (v6 + (1 : Int32))), (4, .int v6), (3, .int v5), (7, .int y0), (0, .ref (ad r0)), (1, .int v1), (5, .int v5)]) hx hb dX6_matchOn_115 hl (k := 6) rfl rfl (by decide) rfl (fun ls hl => ?_)
        refine lv_goto (tgt := 34) hx hb dX6_matchOn_118 (by decide) ?_
        exact hq34 S1 (v1) (v5) (v6) (v5) ((v6 + (1 : Int32))) _ _ _ hR hS (lv_sub hl [4, 5, 2, 1, 6, 0] rfl) hf
set_option maxRecDepth 100000 in
set_option maxHeartbeats 4000000 in
theorem bX6_matchOn_34 {p : Program} {l : Launch} {e : Env} {s : State} {m : MethodId} {args : Array Value} {below : List Frame} {meth : Method} {c : Code} {D : va_G} {cy : Nat → ClassId} {ad : Nat → Nat} {ba : Nat} {O : Int64} {S : teS}  {r0 : Nat} {res : (Int32 × teS)} (hr0 : teK r0 = true) (X : teC wsX6_matchOn RX6 cX6_matchOn 8 (some .int) D cy ba p s m args meth c) {q4 : teS → Int32 → Int32 → Option (Int32 × teS)} (hq4 : ∀ (S1 : teS) (v1 : Int32) (v2 : Int32) (H : Heap) (locs : List Loc) (ls : Array Slot), teR D cy ad ba O S1 H → va_S (teA ba) s.heap H locs → lv_has ls 8 [(0, .ref (ad r0)), (1, .int v1), (2, .int v2)] → q4 S1 v1 v2 = some res → W p l e (headSpec wsX6_matchOn rmX6_matchOn).room s m args below meth c H locs 0 0 (MQ below (va_Qi (fun a (u : teS) => a = res.1 ∧ u = res.2) (fun u t => teR D cy ad ba O u t.heap) (teA ba)) args s 0 0 (teA ba)) (F0 m 4 ls [])) {q20 : teS → Int32 → Int32 → Int32 → Int32 → Option (Int32 × teS)} (hq20 : ∀ (S1 : teS) (v1 : Int32) (v3 : Int32) (v4 : Int32) (v5 : Int32) (H : Heap) (locs : List Loc) (ls : Array Slot), teR D cy ad ba O S1 H → va_S (teA ba) s.heap H locs → lv_has ls 8 [(0, .ref (ad r0)), (1, .int v1), (3, .int v3), (4, .int v4), (5, .int v5)] → q20 S1 v1 v3 v4 v5 = some res → W p l e (headSpec wsX6_matchOn rmX6_matchOn).room s m args below meth c H locs 0 0 (MQ below (va_Qi (fun a (u : teS) => a = res.1 ∧ u = res.2) (fun u t => teR D cy ad ba O u t.heap) (teA ba)) args s 0 0 (teA ba)) (F0 m 20 ls [])) : ∀ (n : Nat), ∀ (S1 : teS) (v1 : Int32) (v3 : Int32) (v4 : Int32) (v5 : Int32) (v6 : Int32) (H : Heap) (locs : List Loc) (ls : Array Slot), teR D cy ad ba O S1 H → va_S (teA ba) s.heap H locs → lv_has ls 8 [(0, .ref (ad r0)), (1, .int v1), (3, .int v3), (4, .int v4), (5, .int v5), (6, .int v6)] → fX6_matchOn_34 r0 q4 q20 n S1 v1 v3 v4 v5 v6 = some res → W p l e (headSpec wsX6_matchOn rmX6_matchOn).room s m args below meth c H locs 0 0 (MQ below (va_Qi (fun a (u : teS) => a = res.1 ∧ u = res.2) (fun u t => teR D cy ad ba O u t.heap) (teA ba)) args s 0 0 (teA ba)) (F0 m 34 ls []) := by
  have hx := X.1
  have hb := X.2.1
  have hown := X.2.2.2.2.1
  intro n
  induction n with
  | zero =>
    intro S1 v1 v3 v4 v5 v6 H locs ls hR hS hl hf
    exact nomatch hf
  | succ n ih =>
    intro S1 v1 v3 v4 v5 v6 H locs ls hR hS hl hf
    unfold fX6_matchOn_34 at hf
    refine lv_iload hx hb dX6_matchOn_34 (lv_at hl 5 rfl) ?_
    refine lv_aload_n hx hb dX6_matchOn_36 rfl (lv_at hl 0 rfl) ?_
    refine lv_iconst (v := (0 : Int32)) hx hb dX6_matchOn_37 (by decide) ?_
    obtain ⟨h_8, hf⟩ := chk_some hf
    refine ra_int X hR (r := r0) hr0 h_8 dX6_matchOn_38 ?_
    refine lv_icmp_ge (tgt := 121) hx hb dX6_matchOn_39 (by decide) (fun c_9 => ?_) (fun c_9 => ?_)
    · replace hf := ite_t c_9 hf
      refine lv_iinc (v := (v5 + (1 : Int32))) (lv' := [(5, .int (v5 + (1 : Int32))), (0, .ref (ad r0)), (1, .int v1), (3, .int v3), (4, .int v4), (6, .int v6)]) hx hb dX6_matchOn_121 hl (k := 4) rfl rfl (by decide) rfl (fun ls hl => ?_)
      refine lv_goto (tgt := 20) hx hb dX6_matchOn_124 (by decide) ?_
      exact hq20 S1 (v1) (v3) (v4) ((v5 + (1 : Int32))) _ _ _ hR hS (lv_sub hl [1, 2, 3, 4, 0] rfl) hf
    · replace hf := ite_f c_9 hf
      refine lv_aload_n hx hb dX6_matchOn_42 rfl (lv_at hl 0 rfl) ?_
      refine lv_iload hx hb dX6_matchOn_43 (lv_at hl 4 rfl) ?_
      obtain ⟨r_10, hq_11, hf⟩ := bd1_some hf
      refine kSi (As := [.ref (ad r0), .int v5]) (rest := []) X hR hS (zcX6_isFree l D cy ad ba O S1 r0 v5 hr0 _ hq_11) (va_cwS 2 X.2.2.2.2.2.1 gX6_matchOn_X6_isFree rfl rfl rfl kdX6_isFree.2 ⟨(Nat.le_of_ble_eq_true rfl), (Nat.le_of_ble_eq_true rfl)⟩)  rfl rfl hl.1 (Nat.le_of_ble_eq_true rfl) ⟨(Nat.le_of_ble_eq_true rfl), (Nat.le_of_ble_eq_true rfl)⟩ dX6_matchOn_45 (fun H locs hR hS => ?_)
      refine lv_if_eq (tgt := 75) hx hb dX6_matchOn_48 (by decide) (fun c_12 => ?_) (fun c_12 => ?_)
      · replace hf := ite_t c_12 hf
        refine lv_iconst (v := (0 : Int32)) hx hb dX6_matchOn_75 (by decide) ?_
        exact bX6_matchOn_76 (S := S) (r0 := r0) hr0 X hq4 hq20 ih S1 (v1) (v3) (v4) (v5) (v6) ((0 : Int32)) _ _ _ hR hS (lv_sub hl [0, 1, 2, 3, 4, 5] rfl) hf
      · replace hf := ite_f c_12 hf
        refine lv_aload_n hx hb dX6_matchOn_51 rfl (lv_at hl 0 rfl) ?_
        refine lv_iload hx hb dX6_matchOn_52 (lv_at hl 5 rfl) ?_
        obtain ⟨r_13, hq_14, hf⟩ := bd1_some hf
        refine kSi (As := [.ref (ad r0), .int v6]) (rest := []) X hR hS (zcX6_isFree l D cy ad ba O S1 r0 v6 hr0 _ hq_14) (va_cwS 2 X.2.2.2.2.2.1 gX6_matchOn_X6_isFree rfl rfl rfl kdX6_isFree.2 ⟨(Nat.le_of_ble_eq_true rfl), (Nat.le_of_ble_eq_true rfl)⟩)  rfl rfl hl.1 (Nat.le_of_ble_eq_true rfl) ⟨(Nat.le_of_ble_eq_true rfl), (Nat.le_of_ble_eq_true rfl)⟩ dX6_matchOn_54 (fun H locs hR hS => ?_)
        refine lv_if_eq (tgt := 75) hx hb dX6_matchOn_57 (by decide) (fun c_15 => ?_) (fun c_15 => ?_)
        · replace hf := ite_t c_15 hf
          refine lv_iconst (v := (0 : Int32)) hx hb dX6_matchOn_75 (by decide) ?_
          exact bX6_matchOn_76 (S := S) (r0 := r0) hr0 X hq4 hq20 ih S1 (v1) (v3) (v4) (v5) (v6) ((0 : Int32)) _ _ _ hR hS (lv_sub hl [0, 1, 2, 3, 4, 5] rfl) hf
        · replace hf := ite_f c_15 hf
          refine lv_aload_n hx hb dX6_matchOn_60 rfl (lv_at hl 0 rfl) ?_
          refine lv_iload hx hb dX6_matchOn_61 (lv_at hl 4 rfl) ?_
          refine lv_iload hx hb dX6_matchOn_63 (lv_at hl 5 rfl) ?_
          obtain ⟨r_16, hq_17, hf⟩ := bd1_some hf
          refine kSi (As := [.ref (ad r0), .int v5, .int v6]) (rest := []) X hR hS (zcX6_fit l D cy ad ba O S1 r0 v5 v6 hr0 _ hq_17) (va_cwS 3 X.2.2.2.2.2.1 gX6_matchOn_X6_fit rfl rfl rfl kdX6_fit.2 ⟨(Nat.le_of_ble_eq_true rfl), (Nat.le_of_ble_eq_true rfl)⟩)  rfl rfl hl.1 (Nat.le_of_ble_eq_true rfl) ⟨(Nat.le_of_ble_eq_true rfl), (Nat.le_of_ble_eq_true rfl)⟩ dX6_matchOn_65 (fun H locs hR hS => ?_)
          refine lv_if_eq (tgt := 75) hx hb dX6_matchOn_68 (by decide) (fun c_18 => ?_) (fun c_18 => ?_)
          · replace hf := ite_t c_18 hf
            refine lv_iconst (v := (0 : Int32)) hx hb dX6_matchOn_75 (by decide) ?_
            exact bX6_matchOn_76 (S := S) (r0 := r0) hr0 X hq4 hq20 ih S1 (v1) (v3) (v4) (v5) (v6) ((0 : Int32)) _ _ _ hR hS (lv_sub hl [0, 1, 2, 3, 4, 5] rfl) hf
          · replace hf := ite_f c_18 hf
            refine lv_iconst (v := (1 : Int32)) hx hb dX6_matchOn_71 (by decide) ?_
            refine lv_goto (tgt := 76) hx hb dX6_matchOn_72 (by decide) ?_
            exact bX6_matchOn_76 (S := S) (r0 := r0) hr0 X hq4 hq20 ih S1 (v1) (v3) (v4) (v5) (v6) ((1 : Int32)) _ _ _ hR hS (lv_sub hl [0, 1, 2, 3, 4, 5] rfl) hf
set_option maxRecDepth 100000 in
set_option maxHeartbeats 4000000 in
theorem bX6_matchOn_139 {p : Program} {l : Launch} {e : Env} {s : State} {m : MethodId} {args : Array Value} {below : List Frame} {meth : Method} {c : Code} {D : va_G} {cy : Nat → ClassId} {ad : Nat → Nat} {ba : Nat} {O : Int64} {S : teS}  {r0 : Nat} {res : (Int32 × teS)} (hr0 : teK r0 = true) (X : teC wsX6_matchOn RX6 cX6_matchOn 8 (some .int) D cy ba p s m args meth c) {q4 : teS → Int32 → Int32 → Option (Int32 × teS)} (hq4 : ∀ (S1 : teS) (v1 : Int32) (v2 : Int32) (H : Heap) (locs : List Loc) (ls : Array Slot), teR D cy ad ba O S1 H → va_S (teA ba) s.heap H locs → lv_has ls 8 [(0, .ref (ad r0)), (1, .int v1), (2, .int v2)] → q4 S1 v1 v2 = some res → W p l e (headSpec wsX6_matchOn rmX6_matchOn).room s m args below meth c H locs 0 0 (MQ below (va_Qi (fun a (u : teS) => a = res.1 ∧ u = res.2) (fun u t => teR D cy ad ba O u t.heap) (teA ba)) args s 0 0 (teA ba)) (F0 m 4 ls [])) : ∀ (S1 : teS) (v1 : Int32) (v3 : Int32) (v4 : Int32) (y0 : Int32) (H : Heap) (locs : List Loc) (ls : Array Slot), teR D cy ad ba O S1 H → va_S (teA ba) s.heap H locs → lv_has ls 8 [(0, .ref (ad r0)), (1, .int v1), (3, .int v3), (4, .int v4)] → fX6_matchOn_139 r0 q4 S1 v1 v3 v4 y0 = some res → W p l e (headSpec wsX6_matchOn rmX6_matchOn).room s m args below meth c H locs 0 0 (MQ below (va_Qi (fun a (u : teS) => a = res.1 ∧ u = res.2) (fun u t => teR D cy ad ba O u t.heap) (teA ba)) args s 0 0 (teA ba)) (F0 m 139 ls [.int y0]) := by
  have hx := X.1
  have hb := X.2.1
  have hown := X.2.2.2.2.1
  intro S1 v1 v3 v4 y0 H locs ls hR hS hl hf
  unfold fX6_matchOn_139 at hf
  refine lv_istore_n (lv' := [(2, .int y0), (0, .ref (ad r0)), (1, .int v1), (3, .int v3), (4, .int v4)]) hx hb dX6_matchOn_139 rfl hl (by decide) rfl (fun ls hl => ?_)
  refine lv_iload_n hx hb dX6_matchOn_140 rfl (lv_at hl 0 rfl) ?_
  refine lv_if_eq (tgt := 154) hx hb dX6_matchOn_141 (by decide) (fun c_5 => ?_) (fun c_5 => ?_)
  · replace hf := ite_t c_5 hf
    refine lv_goto (tgt := 4) hx hb dX6_matchOn_154 (by decide) ?_
    exact hq4 S1 (v1) (y0) _ _ _ hR hS (lv_sub hl [1, 2, 0] rfl) hf
  · replace hf := ite_f c_5 hf
    refine lv_aload_n hx hb dX6_matchOn_144 rfl (lv_at hl 1 rfl) ?_
    refine lv_iload_n hx hb dX6_matchOn_145 rfl (lv_at hl 3 rfl) ?_
    refine lv_iload hx hb dX6_matchOn_146 (lv_at hl 4 rfl) ?_
    obtain ⟨S2, hq_7, hf⟩ := bd1_some hf
    refine kSv (As := [.ref (ad r0), .int v3, .int v4]) (rest := []) X hR hS (zcX6_pairOn l D cy ad ba O S1 r0 v3 v4 hr0 _ hq_7) (va_cwS 3 X.2.2.2.2.2.1 gX6_matchOn_X6_pairOn rfl rfl rfl kdX6_pairOn.2 ⟨(Nat.le_of_ble_eq_true rfl), (Nat.le_of_ble_eq_true rfl)⟩)  rfl rfl hl.1 (Nat.le_of_ble_eq_true rfl) ⟨(Nat.le_of_ble_eq_true rfl), (Nat.le_of_ble_eq_true rfl)⟩ dX6_matchOn_148 (fun H locs hR hS => ?_)
    refine lv_iinc (v := (v1 + (1 : Int32))) (lv' := [(1, .int (v1 + (1 : Int32))), (2, .int y0), (0, .ref (ad r0)), (3, .int v3), (4, .int v4)]) hx hb dX6_matchOn_151 hl (k := 2) rfl rfl (by decide) rfl (fun ls hl => ?_)
    refine lv_goto (tgt := 4) hx hb dX6_matchOn_154 (by decide) ?_
    exact hq4 S2 ((v1 + (1 : Int32))) (y0) _ _ _ hR hS (lv_sub hl [2, 0, 1] rfl) hf
set_option maxRecDepth 100000 in
set_option maxHeartbeats 4000000 in
theorem bX6_matchOn_20 {p : Program} {l : Launch} {e : Env} {s : State} {m : MethodId} {args : Array Value} {below : List Frame} {meth : Method} {c : Code} {D : va_G} {cy : Nat → ClassId} {ad : Nat → Nat} {ba : Nat} {O : Int64} {S : teS}  {r0 : Nat} {res : (Int32 × teS)} (hr0 : teK r0 = true) (X : teC wsX6_matchOn RX6 cX6_matchOn 8 (some .int) D cy ba p s m args meth c) {q4 : teS → Int32 → Int32 → Option (Int32 × teS)} (hq4 : ∀ (S1 : teS) (v1 : Int32) (v2 : Int32) (H : Heap) (locs : List Loc) (ls : Array Slot), teR D cy ad ba O S1 H → va_S (teA ba) s.heap H locs → lv_has ls 8 [(0, .ref (ad r0)), (1, .int v1), (2, .int v2)] → q4 S1 v1 v2 = some res → W p l e (headSpec wsX6_matchOn rmX6_matchOn).room s m args below meth c H locs 0 0 (MQ below (va_Qi (fun a (u : teS) => a = res.1 ∧ u = res.2) (fun u t => teR D cy ad ba O u t.heap) (teA ba)) args s 0 0 (teA ba)) (F0 m 4 ls [])) : ∀ (n : Nat), ∀ (S1 : teS) (v1 : Int32) (v3 : Int32) (v4 : Int32) (v5 : Int32) (H : Heap) (locs : List Loc) (ls : Array Slot), teR D cy ad ba O S1 H → va_S (teA ba) s.heap H locs → lv_has ls 8 [(0, .ref (ad r0)), (1, .int v1), (3, .int v3), (4, .int v4), (5, .int v5)] → fX6_matchOn_20 r0 q4 n S1 v1 v3 v4 v5 = some res → W p l e (headSpec wsX6_matchOn rmX6_matchOn).room s m args below meth c H locs 0 0 (MQ below (va_Qi (fun a (u : teS) => a = res.1 ∧ u = res.2) (fun u t => teR D cy ad ba O u t.heap) (teA ba)) args s 0 0 (teA ba)) (F0 m 20 ls []) := by
  have hx := X.1
  have hb := X.2.1
  have hown := X.2.2.2.2.1
  intro n
  induction n with
  | zero =>
    intro S1 v1 v3 v4 v5 H locs ls hR hS hl hf
    exact nomatch hf
  | succ n ih =>
    intro S1 v1 v3 v4 v5 H locs ls hR hS hl hf
    unfold fX6_matchOn_20 at hf
    refine lv_iload hx hb dX6_matchOn_20 (lv_at hl 4 rfl) ?_
    refine lv_aload_n hx hb dX6_matchOn_22 rfl (lv_at hl 0 rfl) ?_
    refine lv_iconst (v := (0 : Int32)) hx hb dX6_matchOn_23 (by decide) ?_
    obtain ⟨h_2, hf⟩ := chk_some hf
    refine ra_int X hR (r := r0) hr0 h_2 dX6_matchOn_24 ?_
    refine lv_icmp_ge (tgt := 127) hx hb dX6_matchOn_25 (by decide) (fun c_3 => ?_) (fun c_3 => ?_)
    · replace hf := ite_t c_3 hf
      refine lv_iload_n hx hb dX6_matchOn_127 rfl (lv_at hl 2 rfl) ?_
      refine lv_sipush (v := (-9999 : Int32)) hx hb dX6_matchOn_128 (by decide) ?_
      refine lv_icmp_eq (tgt := 138) hx hb dX6_matchOn_131 (by decide) (fun c_4 => ?_) (fun c_4 => ?_)
      · replace hf := ite_t c_4 hf
        refine lv_iconst (v := (0 : Int32)) hx hb dX6_matchOn_138 (by decide) ?_
        exact bX6_matchOn_139 (S := S) (r0 := r0) hr0 X hq4 S1 (v1) (v3) (v4) ((0 : Int32)) _ _ _ hR hS (lv_sub hl [0, 1, 2, 3] rfl) hf
      · replace hf := ite_f c_4 hf
        refine lv_iconst (v := (1 : Int32)) hx hb dX6_matchOn_134 (by decide) ?_
        refine lv_goto (tgt := 139) hx hb dX6_matchOn_135 (by decide) ?_
        exact bX6_matchOn_139 (S := S) (r0 := r0) hr0 X hq4 S1 (v1) (v3) (v4) ((1 : Int32)) _ _ _ hR hS (lv_sub hl [0, 1, 2, 3] rfl) hf
    · replace hf := ite_f c_3 hf
      refine lv_iload hx hb dX6_matchOn_28 (lv_at hl 4 rfl) ?_
      refine lv_iconst (v := (1 : Int32)) hx hb dX6_matchOn_30 (by decide) ?_
      refine lv_iadd hx hb dX6_matchOn_31 ?_
      refine lv_istore (lv' := [(6, .int (v5 + (1 : Int32))), (0, .ref (ad r0)), (1, .int v1), (3, .int v3), (4, .int v4), (5, .int v5)]) hx hb dX6_matchOn_32 hl (by decide) rfl (fun ls hl => ?_)
      exact bX6_matchOn_34 (S := S) (r0 := r0) hr0 X hq4 ih 2000 S1 (v1) (v3) (v4) (v5) ((v5 + (1 : Int32))) _ _ _ hR hS (lv_sub hl [1, 2, 3, 4, 5, 0] rfl) hf
set_option maxRecDepth 100000 in
set_option maxHeartbeats 4000000 in
theorem bX6_matchOn_4 {p : Program} {l : Launch} {e : Env} {s : State} {m : MethodId} {args : Array Value} {below : List Frame} {meth : Method} {c : Code} {D : va_G} {cy : Nat → ClassId} {ad : Nat → Nat} {ba : Nat} {O : Int64} {S : teS}  {r0 : Nat} {res : (Int32 × teS)} (hr0 : teK r0 = true) (X : teC wsX6_matchOn RX6 cX6_matchOn 8 (some .int) D cy ba p s m args meth c) : ∀ (n : Nat), ∀ (S1 : teS) (v1 : Int32) (v2 : Int32) (H : Heap) (locs : List Loc) (ls : Array Slot), teR D cy ad ba O S1 H → va_S (teA ba) s.heap H locs → lv_has ls 8 [(0, .ref (ad r0)), (1, .int v1), (2, .int v2)] → fX6_matchOn_4 r0 n S1 v1 v2 = some res → W p l e (headSpec wsX6_matchOn rmX6_matchOn).room s m args below meth c H locs 0 0 (MQ below (va_Qi (fun a (u : teS) => a = res.1 ∧ u = res.2) (fun u t => teR D cy ad ba O u t.heap) (teA ba)) args s 0 0 (teA ba)) (F0 m 4 ls []) := by
  have hx := X.1
  have hb := X.2.1
  have hown := X.2.2.2.2.1
  intro n
  induction n with
  | zero =>
    intro S1 v1 v2 H locs ls hR hS hl hf
    exact nomatch hf
  | succ n ih =>
    intro S1 v1 v2 H locs ls hR hS hl hf
    unfold fX6_matchOn_4 at hf
    refine lv_iload_n hx hb dX6_matchOn_4 rfl (lv_at hl 2 rfl) ?_
    refine lv_if_eq (tgt := 157) hx hb dX6_matchOn_5 (by decide) (fun c_1 => ?_) (fun c_1 => ?_)
    · replace hf := ite_t c_1 hf
      refine lv_iload_n hx hb dX6_matchOn_157 rfl (lv_at hl 1 rfl) ?_
      exact eI X hR hS (congrArg Prod.fst (Option.some.inj hf)) (congrArg Prod.snd (Option.some.inj hf)) dX6_matchOn_158
    · replace hf := ite_f c_1 hf
      refine lv_sipush (v := (-9999 : Int32)) hx hb dX6_matchOn_8 (by decide) ?_
      refine lv_istore_n (lv' := [(3, .int (-9999 : Int32)), (0, .ref (ad r0)), (1, .int v1), (2, .int v2)]) hx hb dX6_matchOn_11 rfl hl (by decide) rfl (fun ls hl => ?_)
      refine lv_sipush (v := (-9999 : Int32)) hx hb dX6_matchOn_12 (by decide) ?_
      refine lv_istore (lv' := [(4, .int (-9999 : Int32)), (3, .int (-9999 : Int32)), (0, .ref (ad r0)), (1, .int v1), (2, .int v2)]) hx hb dX6_matchOn_15 hl (by decide) rfl (fun ls hl => ?_)
      refine lv_iconst (v := (0 : Int32)) hx hb dX6_matchOn_17 (by decide) ?_
      refine lv_istore (lv' := [(5, .int (0 : Int32)), (4, .int (-9999 : Int32)), (3, .int (-9999 : Int32)), (0, .ref (ad r0)), (1, .int v1), (2, .int v2)]) hx hb dX6_matchOn_18 hl (by decide) rfl (fun ls hl => ?_)
      exact bX6_matchOn_20 (S := S) (r0 := r0) hr0 X ih 2000 S1 (v1) ((-9999 : Int32)) ((-9999 : Int32)) ((0 : Int32)) _ _ _ hR hS (lv_sub hl [3, 4, 2, 1, 0] rfl) hf
set_option maxRecDepth 100000 in
set_option maxHeartbeats 4000000 in
theorem bX6_matchOn_0 {p : Program} {l : Launch} {e : Env} {s : State} {m : MethodId} {args : Array Value} {below : List Frame} {meth : Method} {c : Code} {D : va_G} {cy : Nat → ClassId} {ad : Nat → Nat} {ba : Nat} {O : Int64} {S : teS}  {r0 : Nat} {res : (Int32 × teS)} (hr0 : teK r0 = true) (X : teC wsX6_matchOn RX6 cX6_matchOn 8 (some .int) D cy ba p s m args meth c) (H : Heap) (locs : List Loc) (ls : Array Slot) (hR : teR D cy ad ba O S H) (hS : va_S (teA ba) s.heap H locs) (hl : lv_has ls 8 [(0, .ref (ad r0))]) (hf : fX6_matchOn r0 S = some res) : W p l e (headSpec wsX6_matchOn rmX6_matchOn).room s m args below meth c H locs 0 0 (MQ below (va_Qi (fun a (u : teS) => a = res.1 ∧ u = res.2) (fun u t => teR D cy ad ba O u t.heap) (teA ba)) args s 0 0 (teA ba)) (F0 m 0 ls []) := by
  have hx := X.1
  have hb := X.2.1
  have hown := X.2.2.2.2.1
  unfold fX6_matchOn at hf
  refine lv_iconst (v := (0 : Int32)) hx hb dX6_matchOn_0 (by decide) ?_
  refine lv_istore_n (lv' := [(1, .int (0 : Int32)), (0, .ref (ad r0))]) hx hb dX6_matchOn_1 rfl hl (by decide) rfl (fun ls hl => ?_)
  refine lv_iconst (v := (1 : Int32)) hx hb dX6_matchOn_2 (by decide) ?_
  refine lv_istore_n (lv' := [(2, .int (1 : Int32)), (1, .int (0 : Int32)), (0, .ref (ad r0))]) hx hb dX6_matchOn_3 rfl hl (by decide) rfl (fun ls hl => ?_)
  exact bX6_matchOn_4 (S := S) (r0 := r0) hr0 X 2000 S ((0 : Int32)) ((1 : Int32)) _ _ _ hR hS (lv_sub hl [2, 1, 0] rfl) hf
theorem zcX6_matchOn (l : Launch) (D : va_G) (cy : Nat → ClassId) (ad : Nat → Nat) (ba : Nat) (O : Int64) (S : teS) (r0 : Nat) (hr0 : teK r0 = true) (r : Int32) (S1 : teS) (hf : fX6_matchOn r0 S = some (r, S1)) : cI l yX6_matchOn wsX6_matchOn rmX6_matchOn D cy ad ba O S [.ref (ad r0)] r S1 :=
  te_of (by decide) rfl (Nat.le_of_ble_eq_true rfl) (fun p e s m below meth c ls X hR hS hl => bX6_matchOn_0 (res := (r, S1)) (S := S) (r0 := r0) hr0 X _ _ _ hR hS hl hf)
abbrev rmX6_blockAt : Room := { frames := 5, cells := 0, slots := 0, locals := 109 }
theorem kdX6_blockAt : yX6_blockAt.cls = RX6 ∧ yX6_blockAt.cls ≠ "java/lang/invoke/MethodHandle" ∧ yX6_blockAt.cls ≠ "java/lang/invoke/VarHandle" ∧ (parseMethodDescriptor yX6_blockAt.desc).map (fun d => d.parameters.length) = some 2 := by decide +kernel
set_option maxRecDepth 100000 in
set_option maxHeartbeats 4000000 in
theorem bX6_blockAt_16 {p : Program} {l : Launch} {e : Env} {s : State} {m : MethodId} {args : Array Value} {below : List Frame} {meth : Method} {c : Code} {D : va_G} {cy : Nat → ClassId} {ad : Nat → Nat} {ba : Nat} {O : Int64} {S : teS}  {r0 : Nat} {x1 : Int32} {res : Int32} (hr0 : teK r0 = true) (X : teC wsX6_blockAt RX6 cX6_blockAt 5 (some .int) D cy ba p s m args meth c) {q4 : teS → Int32 → Int32 → Option Int32} (hq4 : ∀  (v2 : Int32) (v3 : Int32) (H : Heap) (locs : List Loc) (ls : Array Slot), teR D cy ad ba O S H → va_S (teA ba) s.heap H locs → lv_has ls 5 [(0, .ref (ad r0)), (2, .int v2), (3, .int v3)] → q4 S v2 v3 = some res → W p l e (headSpec wsX6_blockAt rmX6_blockAt).room s m args below meth c H locs 0 0 (MQ below (va_Qi (fun a (u : teS) => a = res ∧ u = S) (fun u t => teR D cy ad ba O u t.heap) (teA ba)) args s 0 0 (teA ba)) (F0 m 4 ls [])) : ∀ (n : Nat), ∀  (v2 : Int32) (v3 : Int32) (v4 : Int32) (H : Heap) (locs : List Loc) (ls : Array Slot), teR D cy ad ba O S H → va_S (teA ba) s.heap H locs → lv_has ls 5 [(0, .ref (ad r0)), (2, .int v2), (3, .int v3), (4, .int v4)] → fX6_blockAt_16 r0 x1 q4 n S v2 v3 v4 = some res → W p l e (headSpec wsX6_blockAt rmX6_blockAt).room s m args below meth c H locs 0 0 (MQ below (va_Qi (fun a (u : teS) => a = res ∧ u = S) (fun u t => teR D cy ad ba O u t.heap) (teA ba)) args s 0 0 (teA ba)) (F0 m 16 ls []) := by
  have hx := X.1
  have hb := X.2.1
  have hown := X.2.2.2.2.1
  intro n
  induction n with
  | zero =>
    intro v2 v3 v4 H locs ls hR hS hl hf
    exact nomatch hf
  | succ n ih =>
    intro v2 v3 v4 H locs ls hR hS hl hf
    unfold fX6_blockAt_16 at hf
    refine lv_iload hx hb dX6_blockAt_16 (lv_at hl 3 rfl) ?_
    refine lv_aload_n hx hb dX6_blockAt_18 rfl (lv_at hl 0 rfl) ?_
    refine lv_iconst (v := (0 : Int32)) hx hb dX6_blockAt_19 (by decide) ?_
    obtain ⟨h_3, hf⟩ := chk_some hf
    refine ra_int X hR (r := r0) hr0 h_3 dX6_blockAt_20 ?_
    refine lv_icmp_ge (tgt := 55) hx hb dX6_blockAt_21 (by decide) (fun c_4 => ?_) (fun c_4 => ?_)
    · replace hf := ite_t c_4 hf
      refine lv_iinc (v := (v3 + (1 : Int32))) (lv' := [(3, .int (v3 + (1 : Int32))), (0, .ref (ad r0)), (2, .int v2), (4, .int v4)]) hx hb dX6_blockAt_55 hl (k := 2) rfl rfl (by decide) rfl (fun ls hl => ?_)
      refine lv_goto (tgt := 4) hx hb dX6_blockAt_58 (by decide) ?_
      exact hq4 (v2) ((v3 + (1 : Int32))) _ _ _ hR hS (lv_sub hl [1, 2, 0] rfl) hf
    · replace hf := ite_f c_4 hf
      refine lv_aload_n hx hb dX6_blockAt_24 rfl (lv_at hl 0 rfl) ?_
      refine lv_iload_n hx hb dX6_blockAt_25 rfl (lv_at hl 2 rfl) ?_
      refine lv_iload hx hb dX6_blockAt_26 (lv_at hl 3 rfl) ?_
      obtain ⟨r_5, hq_6, hf⟩ := bd1_some hf
      refine kSi (As := [.ref (ad r0), .int v3, .int v4]) (rest := []) X hR hS (zcX6_block l D cy ad ba O S r0 v3 v4 hr0 _ hq_6) (va_cwS 3 X.2.2.2.2.2.1 gX6_blockAt_X6_block rfl rfl rfl kdX6_block.2 ⟨(Nat.le_of_ble_eq_true rfl), (Nat.le_of_ble_eq_true rfl)⟩)  rfl rfl hl.1 (Nat.le_of_ble_eq_true rfl) ⟨(Nat.le_of_ble_eq_true rfl), (Nat.le_of_ble_eq_true rfl)⟩ dX6_blockAt_28 (fun H locs hR hS => ?_)
      refine lv_if_eq (tgt := 49) hx hb dX6_blockAt_31 (by decide) (fun c_7 => ?_) (fun c_7 => ?_)
      · replace hf := ite_t c_7 hf
        refine lv_iinc (v := (v4 + (1 : Int32))) (lv' := [(4, .int (v4 + (1 : Int32))), (0, .ref (ad r0)), (2, .int v2), (3, .int v3)]) hx hb dX6_blockAt_49 hl (k := 3) rfl rfl (by decide) rfl (fun ls hl => ?_)
        refine lv_goto (tgt := 16) hx hb dX6_blockAt_52 (by decide) ?_
        exact ih (v2) (v3) ((v4 + (1 : Int32))) _ _ _ hR hS (lv_sub hl [1, 2, 3, 0] rfl) hf
      · replace hf := ite_f c_7 hf
        refine lv_iload_n hx hb dX6_blockAt_34 rfl (lv_at hl 1 rfl) ?_
        refine lv_if_ne (tgt := 46) hx hb dX6_blockAt_35 (by decide) (fun c_8 => ?_) (fun c_8 => ?_)
        · replace hf := ite_f c_8 hf
          refine lv_iinc (v := (v2 + (-1 : Int32))) (lv' := [(2, .int (v2 + (-1 : Int32))), (0, .ref (ad r0)), (3, .int v3), (4, .int v4)]) hx hb dX6_blockAt_46 hl (k := 1) rfl rfl (by decide) rfl (fun ls hl => ?_)
          refine lv_iinc (v := (v4 + (1 : Int32))) (lv' := [(4, .int (v4 + (1 : Int32))), (2, .int (v2 + (-1 : Int32))), (0, .ref (ad r0)), (3, .int v3)]) hx hb dX6_blockAt_49 hl (k := 3) rfl rfl (by decide) rfl (fun ls hl => ?_)
          refine lv_goto (tgt := 16) hx hb dX6_blockAt_52 (by decide) ?_
          exact ih ((v2 + (-1 : Int32))) (v3) ((v4 + (1 : Int32))) _ _ _ hR hS (lv_sub hl [2, 1, 3, 0] rfl) hf
        · replace hf := ite_t c_8 hf
          refine lv_bipush (v := (10 : Int32)) hx hb dX6_blockAt_38 (by decide) ?_
          refine lv_iload_n hx hb dX6_blockAt_40 rfl (lv_at hl 2 rfl) ?_
          refine lv_imul hx hb dX6_blockAt_41 ?_
          refine lv_iload hx hb dX6_blockAt_42 (lv_at hl 3 rfl) ?_
          refine lv_iadd hx hb dX6_blockAt_44 ?_
          exact eI X hR hS (Option.some.inj hf) rfl dX6_blockAt_45
set_option maxRecDepth 100000 in
set_option maxHeartbeats 4000000 in
theorem bX6_blockAt_4 {p : Program} {l : Launch} {e : Env} {s : State} {m : MethodId} {args : Array Value} {below : List Frame} {meth : Method} {c : Code} {D : va_G} {cy : Nat → ClassId} {ad : Nat → Nat} {ba : Nat} {O : Int64} {S : teS}  {r0 : Nat} {x1 : Int32} {res : Int32} (hr0 : teK r0 = true) (X : teC wsX6_blockAt RX6 cX6_blockAt 5 (some .int) D cy ba p s m args meth c) : ∀ (n : Nat), ∀  (v2 : Int32) (v3 : Int32) (H : Heap) (locs : List Loc) (ls : Array Slot), teR D cy ad ba O S H → va_S (teA ba) s.heap H locs → lv_has ls 5 [(0, .ref (ad r0)), (2, .int v2), (3, .int v3)] → fX6_blockAt_4 r0 x1 n S v2 v3 = some res → W p l e (headSpec wsX6_blockAt rmX6_blockAt).room s m args below meth c H locs 0 0 (MQ below (va_Qi (fun a (u : teS) => a = res ∧ u = S) (fun u t => teR D cy ad ba O u t.heap) (teA ba)) args s 0 0 (teA ba)) (F0 m 4 ls []) := by
  have hx := X.1
  have hb := X.2.1
  have hown := X.2.2.2.2.1
  intro n
  induction n with
  | zero =>
    intro v2 v3 H locs ls hR hS hl hf
    exact nomatch hf
  | succ n ih =>
    intro v2 v3 H locs ls hR hS hl hf
    unfold fX6_blockAt_4 at hf
    refine lv_iload_n hx hb dX6_blockAt_4 rfl (lv_at hl 2 rfl) ?_
    refine lv_aload_n hx hb dX6_blockAt_5 rfl (lv_at hl 0 rfl) ?_
    refine lv_iconst (v := (0 : Int32)) hx hb dX6_blockAt_6 (by decide) ?_
    obtain ⟨h_1, hf⟩ := chk_some hf
    refine ra_int X hR (r := r0) hr0 h_1 dX6_blockAt_7 ?_
    refine lv_icmp_ge (tgt := 61) hx hb dX6_blockAt_8 (by decide) (fun c_2 => ?_) (fun c_2 => ?_)
    · replace hf := ite_t c_2 hf
      refine lv_sipush (v := (-9999 : Int32)) hx hb dX6_blockAt_61 (by decide) ?_
      exact eI X hR hS (Option.some.inj hf) rfl dX6_blockAt_64
    · replace hf := ite_f c_2 hf
      refine lv_iload_n hx hb dX6_blockAt_11 rfl (lv_at hl 2 rfl) ?_
      refine lv_iconst (v := (1 : Int32)) hx hb dX6_blockAt_12 (by decide) ?_
      refine lv_iadd hx hb dX6_blockAt_13 ?_
      refine lv_istore (lv' := [(4, .int (v3 + (1 : Int32))), (0, .ref (ad r0)), (2, .int v2), (3, .int v3)]) hx hb dX6_blockAt_14 hl (by decide) rfl (fun ls hl => ?_)
      exact bX6_blockAt_16 (S := S) (r0 := r0) (x1 := x1) hr0 X ih 2000 (v2) (v3) ((v3 + (1 : Int32))) _ _ _ hR hS (lv_sub hl [1, 2, 3, 0] rfl) hf
set_option maxRecDepth 100000 in
set_option maxHeartbeats 4000000 in
theorem bX6_blockAt_0 {p : Program} {l : Launch} {e : Env} {s : State} {m : MethodId} {args : Array Value} {below : List Frame} {meth : Method} {c : Code} {D : va_G} {cy : Nat → ClassId} {ad : Nat → Nat} {ba : Nat} {O : Int64} {S : teS}  {r0 : Nat} {x1 : Int32} {res : Int32} (hr0 : teK r0 = true) (X : teC wsX6_blockAt RX6 cX6_blockAt 5 (some .int) D cy ba p s m args meth c) (H : Heap) (locs : List Loc) (ls : Array Slot) (hR : teR D cy ad ba O S H) (hS : va_S (teA ba) s.heap H locs) (hl : lv_has ls 5 [(0, .ref (ad r0)), (1, .int x1)]) (hf : fX6_blockAt r0 x1 S = some res) : W p l e (headSpec wsX6_blockAt rmX6_blockAt).room s m args below meth c H locs 0 0 (MQ below (va_Qi (fun a (u : teS) => a = res ∧ u = S) (fun u t => teR D cy ad ba O u t.heap) (teA ba)) args s 0 0 (teA ba)) (F0 m 0 ls []) := by
  have hx := X.1
  have hb := X.2.1
  have hown := X.2.2.2.2.1
  unfold fX6_blockAt at hf
  refine lv_iload_n hx hb dX6_blockAt_0 rfl (lv_at hl 1 rfl) ?_
  refine lv_istore_n (lv' := [(2, .int x1), (0, .ref (ad r0)), (1, .int x1)]) hx hb dX6_blockAt_1 rfl hl (by decide) rfl (fun ls hl => ?_)
  refine lv_iconst (v := (0 : Int32)) hx hb dX6_blockAt_2 (by decide) ?_
  refine lv_istore_n (lv' := [(3, .int (0 : Int32)), (2, .int x1), (0, .ref (ad r0)), (1, .int x1)]) hx hb dX6_blockAt_3 rfl hl (by decide) rfl (fun ls hl => ?_)
  exact bX6_blockAt_4 (S := S) (r0 := r0) (x1 := x1) hr0 X 2000 (x1) ((0 : Int32)) _ _ _ hR hS (lv_sub hl [2, 1, 0] rfl) hf
theorem zcX6_blockAt (l : Launch) (D : va_G) (cy : Nat → ClassId) (ad : Nat → Nat) (ba : Nat) (O : Int64) (S : teS) (r0 : Nat) (x1 : Int32) (hr0 : teK r0 = true) (res : Int32) (hf : fX6_blockAt r0 x1 S = some res) : cI l yX6_blockAt wsX6_blockAt rmX6_blockAt D cy ad ba O S [.ref (ad r0), .int x1] res S :=
  te_of (by decide +kernel) rfl (Nat.le_of_ble_eq_true rfl) (fun p e s m below meth c ls X hR hS hl => bX6_blockAt_0 (S := S) (r0 := r0) (x1 := x1) hr0 X _ _ _ hR hS hl hf)
abbrev rmX6_settleOn : Room := { frames := 6, cells := 0, slots := 0, locals := 133 }
theorem kdX6_settleOn : yX6_settleOn.cls = RX6 ∧ yX6_settleOn.cls ≠ "java/lang/invoke/MethodHandle" ∧ yX6_settleOn.cls ≠ "java/lang/invoke/VarHandle" ∧ (parseMethodDescriptor yX6_settleOn.desc).map (fun d => d.parameters.length) = some 2 := by decide +kernel
set_option maxRecDepth 100000 in
set_option maxHeartbeats 4000000 in
theorem bX6_settleOn_8 {p : Program} {l : Launch} {e : Env} {s : State} {m : MethodId} {args : Array Value} {below : List Frame} {meth : Method} {c : Code} {D : va_G} {cy : Nat → ClassId} {ad : Nat → Nat} {ba : Nat} {O : Int64} {S : teS}  {r0 : Nat} {x1 : Int32} {res : (Int32 × teS)} (hr0 : teK r0 = true) (X : teC wsX6_settleOn RX6 cX6_settleOn 4 (some .int) D cy ba p s m args meth c) : ∀ (n : Nat), ∀ (S1 : teS) (v2 : Int32) (v3 : Int32) (H : Heap) (locs : List Loc) (ls : Array Slot), teR D cy ad ba O S1 H → va_S (teA ba) s.heap H locs → lv_has ls 4 [(0, .ref (ad r0)), (1, .int x1), (2, .int v2), (3, .int v3)] → fX6_settleOn_8 r0 x1 n S1 v2 v3 = some res → W p l e (headSpec wsX6_settleOn rmX6_settleOn).room s m args below meth c H locs 0 0 (MQ below (va_Qi (fun a (u : teS) => a = res.1 ∧ u = res.2) (fun u t => teR D cy ad ba O u t.heap) (teA ba)) args s 0 0 (teA ba)) (F0 m 8 ls []) := by
  have hx := X.1
  have hb := X.2.1
  have hown := X.2.2.2.2.1
  intro n
  induction n with
  | zero =>
    intro S1 v2 v3 H locs ls hR hS hl hf
    exact nomatch hf
  | succ n ih =>
    intro S1 v2 v3 H locs ls hR hS hl hf
    unfold fX6_settleOn_8 at hf
    refine lv_iload_n hx hb dX6_settleOn_8 rfl (lv_at hl 2 rfl) ?_
    refine lv_iload_n hx hb dX6_settleOn_9 rfl (lv_at hl 1 rfl) ?_
    refine lv_icmp_ge (tgt := 44) hx hb dX6_settleOn_10 (by decide) (fun c_3 => ?_) (fun c_3 => ?_)
    · replace hf := ite_t c_3 hf
      refine lv_iload_n hx hb dX6_settleOn_44 rfl (lv_at hl 2 rfl) ?_
      exact eI X hR hS (congrArg Prod.fst (Option.some.inj hf)) (congrArg Prod.snd (Option.some.inj hf)) dX6_settleOn_45
    · replace hf := ite_f c_3 hf
      refine lv_iload_n hx hb dX6_settleOn_13 rfl (lv_at hl 3 rfl) ?_
      refine lv_sipush (v := (-9999 : Int32)) hx hb dX6_settleOn_14 (by decide) ?_
      refine lv_icmp_eq (tgt := 44) hx hb dX6_settleOn_17 (by decide) (fun c_4 => ?_) (fun c_4 => ?_)
      · replace hf := ite_t c_4 hf
        refine lv_iload_n hx hb dX6_settleOn_44 rfl (lv_at hl 2 rfl) ?_
        exact eI X hR hS (congrArg Prod.fst (Option.some.inj hf)) (congrArg Prod.snd (Option.some.inj hf)) dX6_settleOn_45
      · replace hf := ite_f c_4 hf
        refine lv_aload_n hx hb dX6_settleOn_20 rfl (lv_at hl 0 rfl) ?_
        refine lv_iload_n hx hb dX6_settleOn_21 rfl (lv_at hl 3 rfl) ?_
        refine lv_bipush (v := (10 : Int32)) hx hb dX6_settleOn_22 (by decide) ?_
        refine lv_idiv hx hb dX6_settleOn_24 (by decide) ?_
        refine lv_iload_n hx hb dX6_settleOn_25 rfl (lv_at hl 3 rfl) ?_
        refine lv_bipush (v := (10 : Int32)) hx hb dX6_settleOn_26 (by decide) ?_
        refine lv_irem hx hb dX6_settleOn_28 (by decide) ?_
        obtain ⟨S2, hq_6, hf⟩ := bd1_some hf
        refine kSv (As := [.ref (ad r0), .int (v3 / (10 : Int32)), .int (v3 - v3 / (10 : Int32) * (10 : Int32))]) (rest := []) X hR hS (zcX6_pairOn l D cy ad ba O S1 r0 (v3 / (10 : Int32)) (v3 - v3 / (10 : Int32) * (10 : Int32)) hr0 _ hq_6) (va_cwS 3 X.2.2.2.2.2.1 gX6_settleOn_X6_pairOn rfl rfl rfl kdX6_pairOn.2 ⟨(Nat.le_of_ble_eq_true rfl), (Nat.le_of_ble_eq_true rfl)⟩)  rfl rfl hl.1 (Nat.le_of_ble_eq_true rfl) ⟨(Nat.le_of_ble_eq_true rfl), (Nat.le_of_ble_eq_true rfl)⟩ dX6_settleOn_29 (fun H locs hR hS => ?_)
        refine lv_iinc (v := (v2 + (1 : Int32))) (lv' := [(2, .int (v2 + (1 : Int32))), (0, .ref (ad r0)), (1, .int x1), (3, .int v3)]) hx hb dX6_settleOn_32 hl (k := 2) rfl rfl (by decide) rfl (fun ls hl => ?_)
        refine lv_aload_n hx hb dX6_settleOn_35 rfl (lv_at hl 1 rfl) ?_
        refine lv_iconst (v := (0 : Int32)) hx hb dX6_settleOn_36 (by decide) ?_
        obtain ⟨r_7, hq_8, hf⟩ := bd1_some hf
        refine kSi (As := [.ref (ad r0), .int (0 : Int32)]) (rest := []) X hR hS (zcX6_blockAt l D cy ad ba O S2 r0 (0 : Int32) hr0 _ hq_8) (va_cwS 2 X.2.2.2.2.2.1 gX6_settleOn_X6_blockAt rfl rfl rfl kdX6_blockAt.2 ⟨(Nat.le_of_ble_eq_true rfl), (Nat.le_of_ble_eq_true rfl)⟩)  rfl rfl hl.1 (Nat.le_of_ble_eq_true rfl) ⟨(Nat.le_of_ble_eq_true rfl), (Nat.le_of_ble_eq_true rfl)⟩ dX6_settleOn_37 (fun H locs hR hS => ?_)
        refine lv_istore_n (lv' := [(3, .int r_7), (2, .int (v2 + (1 : Int32))), (0, .ref (ad r0)), (1, .int x1)]) hx hb dX6_settleOn_40 rfl hl (by decide) rfl (fun ls hl => ?_)
        refine lv_goto (tgt := 8) hx hb dX6_settleOn_41 (by decide) ?_
        exact ih S2 ((v2 + (1 : Int32))) (r_7) _ _ _ hR hS (lv_sub hl [2, 3, 1, 0] rfl) hf
set_option maxRecDepth 100000 in
set_option maxHeartbeats 4000000 in
theorem bX6_settleOn_0 {p : Program} {l : Launch} {e : Env} {s : State} {m : MethodId} {args : Array Value} {below : List Frame} {meth : Method} {c : Code} {D : va_G} {cy : Nat → ClassId} {ad : Nat → Nat} {ba : Nat} {O : Int64} {S : teS}  {r0 : Nat} {x1 : Int32} {res : (Int32 × teS)} (hr0 : teK r0 = true) (X : teC wsX6_settleOn RX6 cX6_settleOn 4 (some .int) D cy ba p s m args meth c) (H : Heap) (locs : List Loc) (ls : Array Slot) (hR : teR D cy ad ba O S H) (hS : va_S (teA ba) s.heap H locs) (hl : lv_has ls 4 [(0, .ref (ad r0)), (1, .int x1)]) (hf : fX6_settleOn r0 x1 S = some res) : W p l e (headSpec wsX6_settleOn rmX6_settleOn).room s m args below meth c H locs 0 0 (MQ below (va_Qi (fun a (u : teS) => a = res.1 ∧ u = res.2) (fun u t => teR D cy ad ba O u t.heap) (teA ba)) args s 0 0 (teA ba)) (F0 m 0 ls []) := by
  have hx := X.1
  have hb := X.2.1
  have hown := X.2.2.2.2.1
  unfold fX6_settleOn at hf
  refine lv_iconst (v := (0 : Int32)) hx hb dX6_settleOn_0 (by decide) ?_
  refine lv_istore_n (lv' := [(2, .int (0 : Int32)), (0, .ref (ad r0)), (1, .int x1)]) hx hb dX6_settleOn_1 rfl hl (by decide) rfl (fun ls hl => ?_)
  refine lv_aload_n hx hb dX6_settleOn_2 rfl (lv_at hl 1 rfl) ?_
  refine lv_iconst (v := (0 : Int32)) hx hb dX6_settleOn_3 (by decide) ?_
  obtain ⟨r_1, hq_2, hf⟩ := bd1_some hf
  refine kSi (As := [.ref (ad r0), .int (0 : Int32)]) (rest := []) X hR hS (zcX6_blockAt l D cy ad ba O S r0 (0 : Int32) hr0 _ hq_2) (va_cwS 2 X.2.2.2.2.2.1 gX6_settleOn_X6_blockAt rfl rfl rfl kdX6_blockAt.2 ⟨(Nat.le_of_ble_eq_true rfl), (Nat.le_of_ble_eq_true rfl)⟩)  rfl rfl hl.1 (Nat.le_of_ble_eq_true rfl) ⟨(Nat.le_of_ble_eq_true rfl), (Nat.le_of_ble_eq_true rfl)⟩ dX6_settleOn_4 (fun H locs hR hS => ?_)
  refine lv_istore_n (lv' := [(3, .int r_1), (2, .int (0 : Int32)), (0, .ref (ad r0)), (1, .int x1)]) hx hb dX6_settleOn_7 rfl hl (by decide) rfl (fun ls hl => ?_)
  exact bX6_settleOn_8 (S := S) (r0 := r0) (x1 := x1) hr0 X 2000 S ((0 : Int32)) (r_1) _ _ _ hR hS (lv_sub hl [2, 3, 1, 0] rfl) hf
theorem zcX6_settleOn (l : Launch) (D : va_G) (cy : Nat → ClassId) (ad : Nat → Nat) (ba : Nat) (O : Int64) (S : teS) (r0 : Nat) (x1 : Int32) (hr0 : teK r0 = true) (r : Int32) (S1 : teS) (hf : fX6_settleOn r0 x1 S = some (r, S1)) : cI l yX6_settleOn wsX6_settleOn rmX6_settleOn D cy ad ba O S [.ref (ad r0), .int x1] r S1 :=
  te_of (by decide) rfl (Nat.le_of_ble_eq_true rfl) (fun p e s m below meth c ls X hR hS hl => bX6_settleOn_0 (res := (r, S1)) (S := S) (r0 := r0) (x1 := x1) hr0 X _ _ _ hR hS hl hf)
abbrev rmX6_credit : Room := { frames := 1, cells := 0, slots := 0, locals := 20 }
theorem kdX6_credit : yX6_credit.cls = RX6 ∧ yX6_credit.cls ≠ "java/lang/invoke/MethodHandle" ∧ yX6_credit.cls ≠ "java/lang/invoke/VarHandle" ∧ (parseMethodDescriptor yX6_credit.desc).map (fun d => d.parameters.length) = some 3 := by decide +kernel
set_option maxRecDepth 100000 in
set_option maxHeartbeats 4000000 in
theorem bX6_credit_0 {p : Program} {l : Launch} {e : Env} {s : State} {m : MethodId} {args : Array Value} {below : List Frame} {meth : Method} {c : Code} {D : va_G} {cy : Nat → ClassId} {ad : Nat → Nat} {ba : Nat} {O : Int64} {S : teS}  {r0 : Nat} {x1 : Int32} {x2 : Int32} {res : teS} (hr0 : teK r0 = true) (X : teC wsX6_credit RX6 cX6_credit 4 none D cy ba p s m args meth c) (H : Heap) (locs : List Loc) (ls : Array Slot) (hR : teR D cy ad ba O S H) (hS : va_S (teA ba) s.heap H locs) (hl : lv_has ls 4 [(0, .ref (ad r0)), (1, .int x1), (2, .int x2)]) (hf : fX6_credit r0 x1 x2 S = some res) : W p l e (headSpec wsX6_credit rmX6_credit).room s m args below meth c H locs 0 0 (MQ below (va_Qv (fun (u : teS) => u = res) (fun u t => teR D cy ad ba O u t.heap) (teA ba)) args s 0 0 (teA ba)) (F0 m 0 ls []) := by
  have hx := X.1
  have hb := X.2.1
  have hown := X.2.2.2.2.1
  unfold fX6_credit at hf
  refine lv_aload_n hx hb dX6_credit_0 rfl (lv_at hl 0 rfl) ?_
  refine lv_iload_n hx hb dX6_credit_1 rfl (lv_at hl 1 rfl) ?_
  obtain ⟨r_1, hq_2, hf⟩ := bd1_some hf
  refine kSi (As := [.int x1]) (rest := [.ref (ad r0)]) X hR hS (zcX6_at l D cy ad ba O S x1 _ hq_2) (va_cwS 1 X.2.2.2.2.2.1 gX6_credit_X6_at rfl rfl rfl kdX6_at.2 ⟨(Nat.le_of_ble_eq_true rfl), (Nat.le_of_ble_eq_true rfl)⟩)  rfl rfl hl.1 (Nat.le_of_ble_eq_true rfl) ⟨(Nat.le_of_ble_eq_true rfl), (Nat.le_of_ble_eq_true rfl)⟩ dX6_credit_2 (fun H locs hR hS => ?_)
  refine lv_bipush (v := (6 : Int32)) hx hb dX6_credit_5 (by decide) ?_
  refine lv_iadd hx hb dX6_credit_7 ?_
  obtain ⟨h_3, hf⟩ := chk_some hf
  refine ra_int X hR (r := r0) hr0 h_3 dX6_credit_8 ?_
  refine lv_iload_n hx hb dX6_credit_9 rfl (lv_at hl 2 rfl) ?_
  refine lv_iadd hx hb dX6_credit_10 ?_
  refine lv_istore_n (lv' := [(3, .int ((S r0 (r_1 + (6 : Int32)).toNatClampNeg) + x2)), (0, .ref (ad r0)), (1, .int x1), (2, .int x2)]) hx hb dX6_credit_11 rfl hl (by decide) rfl (fun ls hl => ?_)
  refine lv_aload_n hx hb dX6_credit_12 rfl (lv_at hl 1 rfl) ?_
  refine lv_iload_n hx hb dX6_credit_13 rfl (lv_at hl 2 rfl) ?_
  obtain ⟨r_4, hq_5, hf⟩ := bd1_some hf
  refine kSi (As := [.int x1]) (rest := [.ref (ad r0)]) X hR hS (zcX6_at l D cy ad ba O S x1 _ hq_5) (va_cwS 1 X.2.2.2.2.2.1 gX6_credit_X6_at rfl rfl rfl kdX6_at.2 ⟨(Nat.le_of_ble_eq_true rfl), (Nat.le_of_ble_eq_true rfl)⟩)  rfl rfl hl.1 (Nat.le_of_ble_eq_true rfl) ⟨(Nat.le_of_ble_eq_true rfl), (Nat.le_of_ble_eq_true rfl)⟩ dX6_credit_14 (fun H locs hR hS => ?_)
  refine lv_bipush (v := (6 : Int32)) hx hb dX6_credit_17 (by decide) ?_
  refine lv_iadd hx hb dX6_credit_19 ?_
  refine lv_iload_n hx hb dX6_credit_20 rfl (lv_at hl 0 rfl) ?_
  refine lv_bipush (v := (99 : Int32)) hx hb dX6_credit_21 (by decide) ?_
  refine lv_icmp_le (tgt := 31) hx hb dX6_credit_23 (by decide) (fun c_6 => ?_) (fun c_6 => ?_)
  · replace hf := ite_t c_6 hf
    refine lv_iload_n hx hb dX6_credit_31 rfl (lv_at hl 0 rfl) ?_
    refine lv_bipush (v := (-99 : Int32)) hx hb dX6_credit_32 (by decide) ?_
    refine lv_icmp_ge (tgt := 42) hx hb dX6_credit_34 (by decide) (fun c_7 => ?_) (fun c_7 => ?_)
    · replace hf := ite_t c_7 hf
      refine lv_iload_n hx hb dX6_credit_42 rfl (lv_at hl 0 rfl) ?_
      obtain ⟨h_8, hf⟩ := chk_some hf
      refine rs_int X hR hS (r := r0) hr0 h_8 dX6_credit_43 (fun H locs hR hS => ?_)
      generalize teu S r0 (r_4 + (6 : Int32)).toNatClampNeg ((S r0 (r_1 + (6 : Int32)).toNatClampNeg) + x2) = S1 at hf hR
      replace hf := lt1_e hf
      exact eV X hR hS (Option.some.inj hf) dX6_credit_44
    · replace hf := ite_f c_7 hf
      refine lv_bipush (v := (-99 : Int32)) hx hb dX6_credit_37 (by decide) ?_
      refine lv_goto (tgt := 43) hx hb dX6_credit_39 (by decide) ?_
      obtain ⟨h_9, hf⟩ := chk_some hf
      refine rs_int X hR hS (r := r0) hr0 h_9 dX6_credit_43 (fun H locs hR hS => ?_)
      generalize teu S r0 (r_4 + (6 : Int32)).toNatClampNeg (-99 : Int32) = S2 at hf hR
      replace hf := lt1_e hf
      exact eV X hR hS (Option.some.inj hf) dX6_credit_44
  · replace hf := ite_f c_6 hf
    refine lv_bipush (v := (99 : Int32)) hx hb dX6_credit_26 (by decide) ?_
    refine lv_goto (tgt := 43) hx hb dX6_credit_28 (by decide) ?_
    obtain ⟨h_10, hf⟩ := chk_some hf
    refine rs_int X hR hS (r := r0) hr0 h_10 dX6_credit_43 (fun H locs hR hS => ?_)
    generalize teu S r0 (r_4 + (6 : Int32)).toNatClampNeg (99 : Int32) = S3 at hf hR
    replace hf := lt1_e hf
    exact eV X hR hS (Option.some.inj hf) dX6_credit_44
theorem zcX6_credit (l : Launch) (D : va_G) (cy : Nat → ClassId) (ad : Nat → Nat) (ba : Nat) (O : Int64) (S : teS) (r0 : Nat) (x1 : Int32) (x2 : Int32) (hr0 : teK r0 = true) (res : teS) (hf : fX6_credit r0 x1 x2 S = some res) : cV l yX6_credit wsX6_credit rmX6_credit D cy ad ba O S [.ref (ad r0), .int x1, .int x2] res :=
  te_of (by decide +kernel) rfl (Nat.le_of_ble_eq_true rfl) (fun p e s m below meth c ls X hR hS hl => bX6_credit_0 (S := S) (r0 := r0) (x1 := x1) (x2 := x2) hr0 X _ _ _ hR hS hl hf)
abbrev rmX6_learn : Room := { frames := 1, cells := 0, slots := 0, locals := 20 }
theorem kdX6_learn : yX6_learn.cls = RX6 ∧ yX6_learn.cls ≠ "java/lang/invoke/MethodHandle" ∧ yX6_learn.cls ≠ "java/lang/invoke/VarHandle" ∧ (parseMethodDescriptor yX6_learn.desc).map (fun d => d.parameters.length) = some 3 := by decide +kernel
set_option maxRecDepth 100000 in
set_option maxHeartbeats 4000000 in
theorem bX6_learn_82 {p : Program} {l : Launch} {e : Env} {s : State} {m : MethodId} {args : Array Value} {below : List Frame} {meth : Method} {c : Code} {D : va_G} {cy : Nat → ClassId} {ad : Nat → Nat} {ba : Nat} {O : Int64} {S : teS}  {r0 : Nat} {x1 : Int32} {x2 : Int32} {res : teS} (hr0 : teK r0 = true) (X : teC wsX6_learn RX6 cX6_learn 5 none D cy ba p s m args meth c) : ∀ (S1 : teS) (v4 : Int32) (y0 : Int32) (y1 : Int32) (H : Heap) (locs : List Loc) (ls : Array Slot), teR D cy ad ba O S1 H → va_S (teA ba) s.heap H locs → lv_has ls 5 [(0, .ref (ad r0)), (4, .int v4)] → fX6_learn_82 r0 x1 x2 S1 v4 y0 y1 = some res → W p l e (headSpec wsX6_learn rmX6_learn).room s m args below meth c H locs 0 0 (MQ below (va_Qv (fun (u : teS) => u = res) (fun u t => teR D cy ad ba O u t.heap) (teA ba)) args s 0 0 (teA ba)) (F0 m 82 ls [.int y0, .int y1, .ref (ad r0)]) := by
  have hx := X.1
  have hb := X.2.1
  have hown := X.2.2.2.2.1
  intro S1 v4 y0 y1 H locs ls hR hS hl hf
  unfold fX6_learn_82 at hf
  obtain ⟨h_13, hf⟩ := chk_some hf
  refine rs_int X hR hS (r := r0) hr0 h_13 dX6_learn_82 (fun H locs hR hS => ?_)
  generalize teu S1 r0 y1.toNatClampNeg y0 = S2 at hf hR
  replace hf := lt1_e hf
  refine lv_aload_n hx hb dX6_learn_83 rfl (lv_at hl 0 rfl) ?_
  refine lv_iload hx hb dX6_learn_84 (lv_at hl 1 rfl) ?_
  refine lv_aload_n hx hb dX6_learn_86 rfl (lv_at hl 0 rfl) ?_
  refine lv_iload hx hb dX6_learn_87 (lv_at hl 1 rfl) ?_
  obtain ⟨h_14, hf⟩ := chk_some hf
  refine ra_int X hR (r := r0) hr0 h_14 dX6_learn_89 ?_
  refine lv_bipush (v := (9 : Int32)) hx hb dX6_learn_90 (by decide) ?_
  refine lv_icmp_le (tgt := 100) hx hb dX6_learn_92 (by decide) (fun c_15 => ?_) (fun c_15 => ?_)
  · replace hf := ite_t c_15 hf
    refine lv_aload_n hx hb dX6_learn_100 rfl (lv_at hl 0 rfl) ?_
    refine lv_iload hx hb dX6_learn_101 (lv_at hl 1 rfl) ?_
    refine ra_int X hR (r := r0) hr0 h_14 dX6_learn_103 ?_
    refine rs_int X hR hS (r := r0) hr0 h_14 dX6_learn_104 (fun H locs hR hS => ?_)
    generalize teu S2 r0 v4.toNatClampNeg (S2 r0 v4.toNatClampNeg) = S3 at hf hR
    replace hf := lt1_e hf
    exact eV X hR hS (Option.some.inj hf) dX6_learn_105
  · replace hf := ite_f c_15 hf
    refine lv_bipush (v := (9 : Int32)) hx hb dX6_learn_95 (by decide) ?_
    refine lv_goto (tgt := 104) hx hb dX6_learn_97 (by decide) ?_
    refine rs_int X hR hS (r := r0) hr0 h_14 dX6_learn_104 (fun H locs hR hS => ?_)
    generalize teu S2 r0 v4.toNatClampNeg (9 : Int32) = S4 at hf hR
    replace hf := lt1_e hf
    exact eV X hR hS (Option.some.inj hf) dX6_learn_105
set_option maxRecDepth 100000 in
set_option maxHeartbeats 4000000 in
theorem bX6_learn_60 {p : Program} {l : Launch} {e : Env} {s : State} {m : MethodId} {args : Array Value} {below : List Frame} {meth : Method} {c : Code} {D : va_G} {cy : Nat → ClassId} {ad : Nat → Nat} {ba : Nat} {O : Int64} {S : teS}  {r0 : Nat} {x1 : Int32} {x2 : Int32} {res : teS} (hr0 : teK r0 = true) (X : teC wsX6_learn RX6 cX6_learn 5 none D cy ba p s m args meth c) : ∀ (S1 : teS) (v3 : Int32) (v4 : Int32) (H : Heap) (locs : List Loc) (ls : Array Slot), teR D cy ad ba O S1 H → va_S (teA ba) s.heap H locs → lv_has ls 5 [(0, .ref (ad r0)), (3, .int v3), (4, .int v4)] → fX6_learn_60 r0 x1 x2 S1 v3 v4 = some res → W p l e (headSpec wsX6_learn rmX6_learn).room s m args below meth c H locs 0 0 (MQ below (va_Qv (fun (u : teS) => u = res) (fun u t => teR D cy ad ba O u t.heap) (teA ba)) args s 0 0 (teA ba)) (F0 m 60 ls []) := by
  have hx := X.1
  have hb := X.2.1
  have hown := X.2.2.2.2.1
  intro S1 v3 v4 H locs ls hR hS hl hf
  unfold fX6_learn_60 at hf
  refine lv_aload_n hx hb dX6_learn_60 rfl (lv_at hl 0 rfl) ?_
  refine lv_iload_n hx hb dX6_learn_61 rfl (lv_at hl 1 rfl) ?_
  refine lv_iconst (v := (5 : Int32)) hx hb dX6_learn_62 (by decide) ?_
  refine lv_iadd hx hb dX6_learn_63 ?_
  refine lv_aload_n hx hb dX6_learn_64 rfl (lv_at hl 0 rfl) ?_
  refine lv_iload hx hb dX6_learn_65 (lv_at hl 2 rfl) ?_
  obtain ⟨h_10, hf⟩ := chk_some hf
  refine ra_int X hR (r := r0) hr0 h_10 dX6_learn_67 ?_
  refine lv_bipush (v := (9 : Int32)) hx hb dX6_learn_68 (by decide) ?_
  refine lv_icmp_lt (tgt := 77) hx hb dX6_learn_70 (by decide) (fun c_11 => ?_) (fun c_11 => ?_)
  · replace hf := ite_t c_11 hf
    refine lv_aload_n hx hb dX6_learn_77 rfl (lv_at hl 0 rfl) ?_
    refine lv_iload_n hx hb dX6_learn_78 rfl (lv_at hl 1 rfl) ?_
    refine lv_iconst (v := (5 : Int32)) hx hb dX6_learn_79 (by decide) ?_
    refine lv_iadd hx hb dX6_learn_80 ?_
    obtain ⟨h_12, hf⟩ := chk_some hf
    refine ra_int X hR (r := r0) hr0 h_12 dX6_learn_81 ?_
    exact bX6_learn_82 (S := S) (r0 := r0) (x1 := x1) (x2 := x2) hr0 X S1 (v4) ((S1 r0 (v3 + (5 : Int32)).toNatClampNeg)) ((v3 + (5 : Int32))) _ _ _ hR hS (lv_sub hl [0, 2] rfl) hf
  · replace hf := ite_f c_11 hf
    refine lv_iconst (v := (0 : Int32)) hx hb dX6_learn_73 (by decide) ?_
    refine lv_goto (tgt := 82) hx hb dX6_learn_74 (by decide) ?_
    exact bX6_learn_82 (S := S) (r0 := r0) (x1 := x1) (x2 := x2) hr0 X S1 (v4) ((0 : Int32)) ((v3 + (5 : Int32))) _ _ _ hR hS (lv_sub hl [0, 2] rfl) hf
set_option maxRecDepth 100000 in
set_option maxHeartbeats 4000000 in
theorem bX6_learn_30 {p : Program} {l : Launch} {e : Env} {s : State} {m : MethodId} {args : Array Value} {below : List Frame} {meth : Method} {c : Code} {D : va_G} {cy : Nat → ClassId} {ad : Nat → Nat} {ba : Nat} {O : Int64} {S : teS}  {r0 : Nat} {x1 : Int32} {x2 : Int32} {res : teS} (hr0 : teK r0 = true) (X : teC wsX6_learn RX6 cX6_learn 5 none D cy ba p s m args meth c) : ∀ (S1 : teS) (v3 : Int32) (v4 : Int32) (y0 : Int32) (y1 : Int32) (y2 : Int32) (H : Heap) (locs : List Loc) (ls : Array Slot), teR D cy ad ba O S1 H → va_S (teA ba) s.heap H locs → lv_has ls 5 [(0, .ref (ad r0)), (3, .int v3), (4, .int v4)] → fX6_learn_30 r0 x1 x2 S1 v3 v4 y0 y1 y2 = some res → W p l e (headSpec wsX6_learn rmX6_learn).room s m args below meth c H locs 0 0 (MQ below (va_Qv (fun (u : teS) => u = res) (fun u t => teR D cy ad ba O u t.heap) (teA ba)) args s 0 0 (teA ba)) (F0 m 30 ls [.int y0, .int y1, .int y2, .ref (ad r0)]) := by
  have hx := X.1
  have hb := X.2.1
  have hown := X.2.2.2.2.1
  intro S1 v3 v4 y0 y1 y2 H locs ls hR hS hl hf
  unfold fX6_learn_30 at hf
  refine lv_iadd hx hb dX6_learn_30 ?_
  obtain ⟨h_6, hf⟩ := chk_some hf
  refine rs_int X hR hS (r := r0) hr0 h_6 dX6_learn_31 (fun H locs hR hS => ?_)
  generalize teu S1 r0 y2.toNatClampNeg (y1 + y0) = S2 at hf hR
  replace hf := lt1_e hf
  refine lv_aload_n hx hb dX6_learn_32 rfl (lv_at hl 0 rfl) ?_
  refine lv_iload_n hx hb dX6_learn_33 rfl (lv_at hl 1 rfl) ?_
  refine lv_iconst (v := (5 : Int32)) hx hb dX6_learn_34 (by decide) ?_
  refine lv_iadd hx hb dX6_learn_35 ?_
  obtain ⟨h_7, hf⟩ := chk_some hf
  refine ra_int X hR (r := r0) hr0 h_7 dX6_learn_36 ?_
  refine lv_bipush (v := (20 : Int32)) hx hb dX6_learn_37 (by decide) ?_
  refine lv_icmp_lt (tgt := 60) hx hb dX6_learn_39 (by decide) (fun c_8 => ?_) (fun c_8 => ?_)
  · replace hf := ite_t c_8 hf
    exact bX6_learn_60 (S := S) (r0 := r0) (x1 := x1) (x2 := x2) hr0 X S2 (v3) (v4) _ _ _ hR hS (lv_sub hl [0, 1, 2] rfl) hf
  · replace hf := ite_f c_8 hf
    refine lv_aload_n hx hb dX6_learn_42 rfl (lv_at hl 0 rfl) ?_
    refine lv_iload_n hx hb dX6_learn_43 rfl (lv_at hl 1 rfl) ?_
    refine lv_iconst (v := (5 : Int32)) hx hb dX6_learn_44 (by decide) ?_
    refine lv_iadd hx hb dX6_learn_45 ?_
    refine lv_dup2_11 hx hb dX6_learn_46 rfl rfl ?_
    refine ra_int X hR (r := r0) hr0 h_7 dX6_learn_47 ?_
    refine lv_bipush (v := (20 : Int32)) hx hb dX6_learn_48 (by decide) ?_
    refine lv_isub hx hb dX6_learn_50 ?_
    refine rs_int X hR hS (r := r0) hr0 h_7 dX6_learn_51 (fun H locs hR hS => ?_)
    generalize teu S2 r0 (v3 + (5 : Int32)).toNatClampNeg ((S2 r0 (v3 + (5 : Int32)).toNatClampNeg) - (20 : Int32)) = S3 at hf hR
    replace hf := lt1_e hf
    refine lv_aload_n hx hb dX6_learn_52 rfl (lv_at hl 0 rfl) ?_
    refine lv_iload hx hb dX6_learn_53 (lv_at hl 2 rfl) ?_
    refine lv_dup2_11 hx hb dX6_learn_55 rfl rfl ?_
    obtain ⟨h_9, hf⟩ := chk_some hf
    refine ra_int X hR (r := r0) hr0 h_9 dX6_learn_56 ?_
    refine lv_iconst (v := (1 : Int32)) hx hb dX6_learn_57 (by decide) ?_
    refine lv_iadd hx hb dX6_learn_58 ?_
    refine rs_int X hR hS (r := r0) hr0 h_9 dX6_learn_59 (fun H locs hR hS => ?_)
    generalize teu S3 r0 v4.toNatClampNeg ((S3 r0 v4.toNatClampNeg) + (1 : Int32)) = S4 at hf hR
    replace hf := lt1_e hf
    exact bX6_learn_60 (S := S) (r0 := r0) (x1 := x1) (x2 := x2) hr0 X S4 (v3) (v4) _ _ _ hR hS (lv_sub hl [0, 1, 2] rfl) hf
set_option maxRecDepth 100000 in
set_option maxHeartbeats 4000000 in
theorem bX6_learn_0 {p : Program} {l : Launch} {e : Env} {s : State} {m : MethodId} {args : Array Value} {below : List Frame} {meth : Method} {c : Code} {D : va_G} {cy : Nat → ClassId} {ad : Nat → Nat} {ba : Nat} {O : Int64} {S : teS}  {r0 : Nat} {x1 : Int32} {x2 : Int32} {res : teS} (hr0 : teK r0 = true) (X : teC wsX6_learn RX6 cX6_learn 5 none D cy ba p s m args meth c) (H : Heap) (locs : List Loc) (ls : Array Slot) (hR : teR D cy ad ba O S H) (hS : va_S (teA ba) s.heap H locs) (hl : lv_has ls 5 [(0, .ref (ad r0)), (1, .int x1), (2, .int x2)]) (hf : fX6_learn r0 x1 x2 S = some res) : W p l e (headSpec wsX6_learn rmX6_learn).room s m args below meth c H locs 0 0 (MQ below (va_Qv (fun (u : teS) => u = res) (fun u t => teR D cy ad ba O u t.heap) (teA ba)) args s 0 0 (teA ba)) (F0 m 0 ls []) := by
  have hx := X.1
  have hb := X.2.1
  have hown := X.2.2.2.2.1
  unfold fX6_learn at hf
  refine lv_iload_n hx hb dX6_learn_0 rfl (lv_at hl 1 rfl) ?_
  obtain ⟨r_1, hq_2, hf⟩ := bd1_some hf
  refine kSi (As := [.int x1]) (rest := []) X hR hS (zcX6_at l D cy ad ba O S x1 _ hq_2) (va_cwS 1 X.2.2.2.2.2.1 gX6_learn_X6_at rfl rfl rfl kdX6_at.2 ⟨(Nat.le_of_ble_eq_true rfl), (Nat.le_of_ble_eq_true rfl)⟩)  rfl rfl hl.1 (Nat.le_of_ble_eq_true rfl) ⟨(Nat.le_of_ble_eq_true rfl), (Nat.le_of_ble_eq_true rfl)⟩ dX6_learn_1 (fun H locs hR hS => ?_)
  refine lv_istore_n (lv' := [(3, .int r_1), (0, .ref (ad r0)), (1, .int x1), (2, .int x2)]) hx hb dX6_learn_4 rfl hl (by decide) rfl (fun ls hl => ?_)
  refine lv_iload_n hx hb dX6_learn_5 rfl (lv_at hl 0 rfl) ?_
  refine lv_aload_n hx hb dX6_learn_6 rfl (lv_at hl 1 rfl) ?_
  refine lv_iload_n hx hb dX6_learn_7 rfl (lv_at hl 0 rfl) ?_
  refine lv_iconst (v := (4 : Int32)) hx hb dX6_learn_8 (by decide) ?_
  refine lv_iadd hx hb dX6_learn_9 ?_
  obtain ⟨h_3, hf⟩ := chk_some hf
  refine ra_int X hR (r := r0) hr0 h_3 dX6_learn_10 ?_
  refine lv_iadd hx hb dX6_learn_11 ?_
  refine lv_istore (lv' := [(4, .int (r_1 + (S r0 (r_1 + (4 : Int32)).toNatClampNeg))), (3, .int r_1), (0, .ref (ad r0)), (1, .int x1), (2, .int x2)]) hx hb dX6_learn_12 hl (by decide) rfl (fun ls hl => ?_)
  refine lv_aload_n hx hb dX6_learn_14 rfl (lv_at hl 2 rfl) ?_
  refine lv_iload_n hx hb dX6_learn_15 rfl (lv_at hl 1 rfl) ?_
  refine lv_iconst (v := (5 : Int32)) hx hb dX6_learn_16 (by decide) ?_
  refine lv_iadd hx hb dX6_learn_17 ?_
  refine lv_dup2_11 hx hb dX6_learn_18 rfl rfl ?_
  obtain ⟨h_4, hf⟩ := chk_some hf
  refine ra_int X hR (r := r0) hr0 h_4 dX6_learn_19 ?_
  refine lv_iload_n hx hb dX6_learn_20 rfl (lv_at hl 4 rfl) ?_
  refine lv_iconst (v := (1 : Int32)) hx hb dX6_learn_21 (by decide) ?_
  refine lv_icmp_ge (tgt := 29) hx hb dX6_learn_22 (by decide) (fun c_5 => ?_) (fun c_5 => ?_)
  · replace hf := ite_t c_5 hf
    refine lv_iload_n hx hb dX6_learn_29 rfl (lv_at hl 4 rfl) ?_
    exact bX6_learn_30 (S := S) (r0 := r0) (x1 := x1) (x2 := x2) hr0 X S (r_1) ((r_1 + (S r0 (r_1 + (4 : Int32)).toNatClampNeg))) (x2) ((S r0 (r_1 + (5 : Int32)).toNatClampNeg)) ((r_1 + (5 : Int32))) _ _ _ hR hS (lv_sub hl [2, 1, 0] rfl) hf
  · replace hf := ite_f c_5 hf
    refine lv_iconst (v := (1 : Int32)) hx hb dX6_learn_25 (by decide) ?_
    refine lv_goto (tgt := 30) hx hb dX6_learn_26 (by decide) ?_
    exact bX6_learn_30 (S := S) (r0 := r0) (x1 := x1) (x2 := x2) hr0 X S (r_1) ((r_1 + (S r0 (r_1 + (4 : Int32)).toNatClampNeg))) ((1 : Int32)) ((S r0 (r_1 + (5 : Int32)).toNatClampNeg)) ((r_1 + (5 : Int32))) _ _ _ hR hS (lv_sub hl [2, 1, 0] rfl) hf
theorem zcX6_learn (l : Launch) (D : va_G) (cy : Nat → ClassId) (ad : Nat → Nat) (ba : Nat) (O : Int64) (S : teS) (r0 : Nat) (x1 : Int32) (x2 : Int32) (hr0 : teK r0 = true) (res : teS) (hf : fX6_learn r0 x1 x2 S = some res) : cV l yX6_learn wsX6_learn rmX6_learn D cy ad ba O S [.ref (ad r0), .int x1, .int x2] res :=
  te_of (by decide +kernel) rfl (Nat.le_of_ble_eq_true rfl) (fun p e s m below meth c ls X hR hS hl => bX6_learn_0 (S := S) (r0 := r0) (x1 := x1) (x2 := x2) hr0 X _ _ _ hR hS hl hf)
abbrev rmX6_miss : Room := { frames := 2, cells := 0, slots := 0, locals := 43 }
theorem kdX6_miss : yX6_miss.cls = RX6 ∧ yX6_miss.cls ≠ "java/lang/invoke/MethodHandle" ∧ yX6_miss.cls ≠ "java/lang/invoke/VarHandle" ∧ (parseMethodDescriptor yX6_miss.desc).map (fun d => d.parameters.length) = some 3 := by decide +kernel
set_option maxRecDepth 100000 in
set_option maxHeartbeats 4000000 in
theorem bX6_miss_19 {p : Program} {l : Launch} {e : Env} {s : State} {m : MethodId} {args : Array Value} {below : List Frame} {meth : Method} {c : Code} {D : va_G} {cy : Nat → ClassId} {ad : Nat → Nat} {ba : Nat} {O : Int64} {S : teS}  {r0 : Nat} {x1 : Int32} {x2 : Int32} {res : teS} (hr0 : teK r0 = true) (X : teC wsX6_miss RX6 cX6_miss 3 none D cy ba p s m args meth c) : ∀ (S1 : teS) (y0 : Int32) (y1 : Int32) (y2 : Int32) (H : Heap) (locs : List Loc) (ls : Array Slot), teR D cy ad ba O S1 H → va_S (teA ba) s.heap H locs → lv_has ls 3 [(0, .ref (ad r0)), (1, .int x1), (2, .int x2)] → fX6_miss_19 r0 x1 x2 S1 y0 y1 y2 = some res → W p l e (headSpec wsX6_miss rmX6_miss).room s m args below meth c H locs 0 0 (MQ below (va_Qv (fun (u : teS) => u = res) (fun u t => teR D cy ad ba O u t.heap) (teA ba)) args s 0 0 (teA ba)) (F0 m 19 ls [.int y0, .int y1, .int y2, .ref (ad r0)]) := by
  have hx := X.1
  have hb := X.2.1
  have hown := X.2.2.2.2.1
  intro S1 y0 y1 y2 H locs ls hR hS hl hf
  unfold fX6_miss_19 at hf
  refine lv_iadd hx hb dX6_miss_19 ?_
  obtain ⟨h_5, hf⟩ := chk_some hf
  refine rs_int X hR hS (r := r0) hr0 h_5 dX6_miss_20 (fun H locs hR hS => ?_)
  generalize teu S1 r0 y2.toNatClampNeg (y1 + y0) = S2 at hf hR
  replace hf := lt1_e hf
  refine lv_aload_n hx hb dX6_miss_21 rfl (lv_at hl 0 rfl) ?_
  refine lv_iload_n hx hb dX6_miss_22 rfl (lv_at hl 1 rfl) ?_
  obtain ⟨r_6, hq_7, hf⟩ := bd1_some hf
  refine kSi (As := [.int x1]) (rest := [.ref (ad r0)]) X hR hS (zcX6_at l D cy ad ba O S2 x1 _ hq_7) (va_cwS 1 X.2.2.2.2.2.1 gX6_miss_X6_at rfl rfl rfl kdX6_at.2 ⟨(Nat.le_of_ble_eq_true rfl), (Nat.le_of_ble_eq_true rfl)⟩)  rfl rfl hl.1 (Nat.le_of_ble_eq_true rfl) ⟨(Nat.le_of_ble_eq_true rfl), (Nat.le_of_ble_eq_true rfl)⟩ dX6_miss_23 (fun H locs hR hS => ?_)
  refine lv_bipush (v := (9 : Int32)) hx hb dX6_miss_26 (by decide) ?_
  refine lv_iadd hx hb dX6_miss_28 ?_
  refine lv_dup2_11 hx hb dX6_miss_29 rfl rfl ?_
  obtain ⟨h_8, hf⟩ := chk_some hf
  refine ra_int X hR (r := r0) hr0 h_8 dX6_miss_30 ?_
  refine lv_iconst (v := (1 : Int32)) hx hb dX6_miss_31 (by decide) ?_
  refine lv_iadd hx hb dX6_miss_32 ?_
  refine rs_int X hR hS (r := r0) hr0 h_8 dX6_miss_33 (fun H locs hR hS => ?_)
  generalize teu S2 r0 (r_6 + (9 : Int32)).toNatClampNeg ((S2 r0 (r_6 + (9 : Int32)).toNatClampNeg) + (1 : Int32)) = S3 at hf hR
  replace hf := lt1_e hf
  refine lv_aload_n hx hb dX6_miss_34 rfl (lv_at hl 0 rfl) ?_
  refine lv_iload_n hx hb dX6_miss_35 rfl (lv_at hl 1 rfl) ?_
  refine lv_iload_n hx hb dX6_miss_36 rfl (lv_at hl 2 rfl) ?_
  refine lv_if_eq (tgt := 45) hx hb dX6_miss_37 (by decide) (fun c_9 => ?_) (fun c_9 => ?_)
  · replace hf := ite_t c_9 hf
    refine lv_iconst (v := (2 : Int32)) hx hb dX6_miss_45 (by decide) ?_
    obtain ⟨S4, hq_11, hf⟩ := bd1_some hf
    refine kSv (As := [.ref (ad r0), .int x1, .int (2 : Int32)]) (rest := []) X hR hS (zcX6_credit l D cy ad ba O S3 r0 x1 (2 : Int32) hr0 _ hq_11) (va_cwS 3 X.2.2.2.2.2.1 gX6_miss_X6_credit rfl rfl rfl kdX6_credit.2 ⟨(Nat.le_of_ble_eq_true rfl), (Nat.le_of_ble_eq_true rfl)⟩)  rfl rfl hl.1 (Nat.le_of_ble_eq_true rfl) ⟨(Nat.le_of_ble_eq_true rfl), (Nat.le_of_ble_eq_true rfl)⟩ dX6_miss_46 (fun H locs hR hS => ?_)
    exact eV X hR hS (Option.some.inj hf) dX6_miss_49
  · replace hf := ite_f c_9 hf
    refine lv_bipush (v := (-3 : Int32)) hx hb dX6_miss_40 (by decide) ?_
    refine lv_goto (tgt := 46) hx hb dX6_miss_42 (by decide) ?_
    obtain ⟨S5, hq_13, hf⟩ := bd1_some hf
    refine kSv (As := [.ref (ad r0), .int x1, .int (-3 : Int32)]) (rest := []) X hR hS (zcX6_credit l D cy ad ba O S3 r0 x1 (-3 : Int32) hr0 _ hq_13) (va_cwS 3 X.2.2.2.2.2.1 gX6_miss_X6_credit rfl rfl rfl kdX6_credit.2 ⟨(Nat.le_of_ble_eq_true rfl), (Nat.le_of_ble_eq_true rfl)⟩)  rfl rfl hl.1 (Nat.le_of_ble_eq_true rfl) ⟨(Nat.le_of_ble_eq_true rfl), (Nat.le_of_ble_eq_true rfl)⟩ dX6_miss_46 (fun H locs hR hS => ?_)
    exact eV X hR hS (Option.some.inj hf) dX6_miss_49
set_option maxRecDepth 100000 in
set_option maxHeartbeats 4000000 in
theorem bX6_miss_0 {p : Program} {l : Launch} {e : Env} {s : State} {m : MethodId} {args : Array Value} {below : List Frame} {meth : Method} {c : Code} {D : va_G} {cy : Nat → ClassId} {ad : Nat → Nat} {ba : Nat} {O : Int64} {S : teS}  {r0 : Nat} {x1 : Int32} {x2 : Int32} {res : teS} (hr0 : teK r0 = true) (X : teC wsX6_miss RX6 cX6_miss 3 none D cy ba p s m args meth c) (H : Heap) (locs : List Loc) (ls : Array Slot) (hR : teR D cy ad ba O S H) (hS : va_S (teA ba) s.heap H locs) (hl : lv_has ls 3 [(0, .ref (ad r0)), (1, .int x1), (2, .int x2)]) (hf : fX6_miss r0 x1 x2 S = some res) : W p l e (headSpec wsX6_miss rmX6_miss).room s m args below meth c H locs 0 0 (MQ below (va_Qv (fun (u : teS) => u = res) (fun u t => teR D cy ad ba O u t.heap) (teA ba)) args s 0 0 (teA ba)) (F0 m 0 ls []) := by
  have hx := X.1
  have hb := X.2.1
  have hown := X.2.2.2.2.1
  unfold fX6_miss at hf
  refine lv_aload_n hx hb dX6_miss_0 rfl (lv_at hl 0 rfl) ?_
  refine lv_iload_n hx hb dX6_miss_1 rfl (lv_at hl 1 rfl) ?_
  obtain ⟨r_1, hq_2, hf⟩ := bd1_some hf
  refine kSi (As := [.int x1]) (rest := [.ref (ad r0)]) X hR hS (zcX6_at l D cy ad ba O S x1 _ hq_2) (va_cwS 1 X.2.2.2.2.2.1 gX6_miss_X6_at rfl rfl rfl kdX6_at.2 ⟨(Nat.le_of_ble_eq_true rfl), (Nat.le_of_ble_eq_true rfl)⟩)  rfl rfl hl.1 (Nat.le_of_ble_eq_true rfl) ⟨(Nat.le_of_ble_eq_true rfl), (Nat.le_of_ble_eq_true rfl)⟩ dX6_miss_2 (fun H locs hR hS => ?_)
  refine lv_bipush (v := (7 : Int32)) hx hb dX6_miss_5 (by decide) ?_
  refine lv_iadd hx hb dX6_miss_7 ?_
  refine lv_dup2_11 hx hb dX6_miss_8 rfl rfl ?_
  obtain ⟨h_3, hf⟩ := chk_some hf
  refine ra_int X hR (r := r0) hr0 h_3 dX6_miss_9 ?_
  refine lv_iload_n hx hb dX6_miss_10 rfl (lv_at hl 2 rfl) ?_
  refine lv_if_eq (tgt := 18) hx hb dX6_miss_11 (by decide) (fun c_4 => ?_) (fun c_4 => ?_)
  · replace hf := ite_t c_4 hf
    refine lv_iconst (v := (0 : Int32)) hx hb dX6_miss_18 (by decide) ?_
    exact bX6_miss_19 (S := S) (r0 := r0) (x1 := x1) (x2 := x2) hr0 X S ((0 : Int32)) ((S r0 (r_1 + (7 : Int32)).toNatClampNeg)) ((r_1 + (7 : Int32))) _ _ _ hR hS (lv_sub hl [0, 1, 2] rfl) hf
  · replace hf := ite_f c_4 hf
    refine lv_iconst (v := (1 : Int32)) hx hb dX6_miss_14 (by decide) ?_
    refine lv_goto (tgt := 19) hx hb dX6_miss_15 (by decide) ?_
    exact bX6_miss_19 (S := S) (r0 := r0) (x1 := x1) (x2 := x2) hr0 X S ((1 : Int32)) ((S r0 (r_1 + (7 : Int32)).toNatClampNeg)) ((r_1 + (7 : Int32))) _ _ _ hR hS (lv_sub hl [0, 1, 2] rfl) hf
theorem zcX6_miss (l : Launch) (D : va_G) (cy : Nat → ClassId) (ad : Nat → Nat) (ba : Nat) (O : Int64) (S : teS) (r0 : Nat) (x1 : Int32) (x2 : Int32) (hr0 : teK r0 = true) (res : teS) (hf : fX6_miss r0 x1 x2 S = some res) : cV l yX6_miss wsX6_miss rmX6_miss D cy ad ba O S [.ref (ad r0), .int x1, .int x2] res :=
  te_of (by decide +kernel) rfl (Nat.le_of_ble_eq_true rfl) (fun p e s m below meth c ls X hR hS hl => bX6_miss_0 (S := S) (r0 := r0) (x1 := x1) (x2 := x2) hr0 X _ _ _ hR hS hl hf)
abbrev rmX6_meet : Room := { frames := 3, cells := 0, slots := 0, locals := 65 }
theorem kdX6_meet : yX6_meet.cls = RX6 ∧ yX6_meet.cls ≠ "java/lang/invoke/MethodHandle" ∧ yX6_meet.cls ≠ "java/lang/invoke/VarHandle" ∧ (parseMethodDescriptor yX6_meet.desc).map (fun d => d.parameters.length) = some 4 := by decide +kernel
set_option maxRecDepth 100000 in
set_option maxHeartbeats 4000000 in
theorem bX6_meet_30 {p : Program} {l : Launch} {e : Env} {s : State} {m : MethodId} {args : Array Value} {below : List Frame} {meth : Method} {c : Code} {D : va_G} {cy : Nat → ClassId} {ad : Nat → Nat} {ba : Nat} {O : Int64} {S : teS}  {r0 : Nat} {x1 : Int32} {x2 : Int32} {x3 : Int32} {res : teS} (hr0 : teK r0 = true) (X : teC wsX6_meet RX6 cX6_meet 8 none D cy ba p s m args meth c) : ∀ (S1 : teS) (v4 : Int32) (y0 : Int32) (H : Heap) (locs : List Loc) (ls : Array Slot), teR D cy ad ba O S1 H → va_S (teA ba) s.heap H locs → lv_has ls 8 [(0, .ref (ad r0)), (1, .int x1), (2, .int x2), (4, .int v4)] → fX6_meet_30 r0 x1 x2 x3 S1 v4 y0 = some res → W p l e (headSpec wsX6_meet rmX6_meet).room s m args below meth c H locs 0 0 (MQ below (va_Qv (fun (u : teS) => u = res) (fun u t => teR D cy ad ba O u t.heap) (teA ba)) args s 0 0 (teA ba)) (F0 m 30 ls [.int y0]) := by
  have hx := X.1
  have hb := X.2.1
  have hown := X.2.2.2.2.1
  intro S1 v4 y0 H locs ls hR hS hl hf
  unfold fX6_meet_30 at hf
  refine lv_istore (lv' := [(5, .int y0), (0, .ref (ad r0)), (1, .int x1), (2, .int x2), (4, .int v4)]) hx hb dX6_meet_30 hl (by decide) rfl (fun ls hl => ?_)
  refine lv_iload hx hb dX6_meet_32 (lv_at hl 4 rfl) ?_
  refine lv_if_ne (tgt := 42) hx hb dX6_meet_34 (by decide) (fun c_3 => ?_) (fun c_3 => ?_)
  · replace hf := ite_f c_3 hf
    refine lv_aload_n hx hb dX6_meet_42 rfl (lv_at hl 1 rfl) ?_
    refine lv_iload_n hx hb dX6_meet_43 rfl (lv_at hl 2 rfl) ?_
    refine lv_iload hx hb dX6_meet_44 (lv_at hl 4 rfl) ?_
    obtain ⟨S2, hq_5, hf⟩ := bd1_some hf
    refine kSv (As := [.ref (ad r0), .int x1, .int v4]) (rest := []) X hR hS (zcX6_miss l D cy ad ba O S1 r0 x1 v4 hr0 _ hq_5) (va_cwS 3 X.2.2.2.2.2.1 gX6_meet_X6_miss rfl rfl rfl kdX6_miss.2 ⟨(Nat.le_of_ble_eq_true rfl), (Nat.le_of_ble_eq_true rfl)⟩)  rfl rfl hl.1 (Nat.le_of_ble_eq_true rfl) ⟨(Nat.le_of_ble_eq_true rfl), (Nat.le_of_ble_eq_true rfl)⟩ dX6_meet_46 (fun H locs hR hS => ?_)
    refine lv_aload_n hx hb dX6_meet_49 rfl (lv_at hl 1 rfl) ?_
    refine lv_iload_n hx hb dX6_meet_50 rfl (lv_at hl 3 rfl) ?_
    refine lv_iload hx hb dX6_meet_51 (lv_at hl 0 rfl) ?_
    obtain ⟨S3, hq_7, hf⟩ := bd1_some hf
    refine kSv (As := [.ref (ad r0), .int x2, .int y0]) (rest := []) X hR hS (zcX6_miss l D cy ad ba O S2 r0 x2 y0 hr0 _ hq_7) (va_cwS 3 X.2.2.2.2.2.1 gX6_meet_X6_miss rfl rfl rfl kdX6_miss.2 ⟨(Nat.le_of_ble_eq_true rfl), (Nat.le_of_ble_eq_true rfl)⟩)  rfl rfl hl.1 (Nat.le_of_ble_eq_true rfl) ⟨(Nat.le_of_ble_eq_true rfl), (Nat.le_of_ble_eq_true rfl)⟩ dX6_meet_53 (fun H locs hR hS => ?_)
    exact eV X hR hS (Option.some.inj hf) dX6_meet_56
  · replace hf := ite_t c_3 hf
    refine lv_iload hx hb dX6_meet_37 (lv_at hl 0 rfl) ?_
    refine lv_if_eq (tgt := 57) hx hb dX6_meet_39 (by decide) (fun c_8 => ?_) (fun c_8 => ?_)
    · replace hf := ite_t c_8 hf
      refine lv_iconst (v := (4 : Int32)) hx hb dX6_meet_57 (by decide) ?_
      refine lv_aload_n hx hb dX6_meet_58 rfl (lv_at hl 1 rfl) ?_
      refine lv_iload_n hx hb dX6_meet_59 rfl (lv_at hl 2 rfl) ?_
      refine lv_iload_n hx hb dX6_meet_60 rfl (lv_at hl 3 rfl) ?_
      obtain ⟨r_9, hq_10, hf⟩ := bd1_some hf
      refine kSi (As := [.ref (ad r0), .int x1, .int x2]) (rest := [.int (4 : Int32)]) X hR hS (zcX6_better l D cy ad ba O S1 r0 x1 x2 hr0 _ hq_10) (va_cwS 3 X.2.2.2.2.2.1 gX6_meet_X6_better rfl rfl rfl kdX6_better.2 ⟨(Nat.le_of_ble_eq_true rfl), (Nat.le_of_ble_eq_true rfl)⟩)  rfl rfl hl.1 (Nat.le_of_ble_eq_true rfl) ⟨(Nat.le_of_ble_eq_true rfl), (Nat.le_of_ble_eq_true rfl)⟩ dX6_meet_61 (fun H locs hR hS => ?_)
      refine lv_iadd hx hb dX6_meet_64 ?_
      refine lv_istore (lv' := [(6, .int ((4 : Int32) + r_9)), (5, .int y0), (0, .ref (ad r0)), (1, .int x1), (2, .int x2), (4, .int v4)]) hx hb dX6_meet_65 hl (by decide) rfl (fun ls hl => ?_)
      refine lv_iconst (v := (4 : Int32)) hx hb dX6_meet_67 (by decide) ?_
      refine lv_aload_n hx hb dX6_meet_68 rfl (lv_at hl 2 rfl) ?_
      refine lv_iload_n hx hb dX6_meet_69 rfl (lv_at hl 4 rfl) ?_
      refine lv_iload_n hx hb dX6_meet_70 rfl (lv_at hl 3 rfl) ?_
      obtain ⟨r_11, hq_12, hf⟩ := bd1_some hf
      refine kSi (As := [.ref (ad r0), .int x2, .int x1]) (rest := [.int (4 : Int32)]) X hR hS (zcX6_better l D cy ad ba O S1 r0 x2 x1 hr0 _ hq_12) (va_cwS 3 X.2.2.2.2.2.1 gX6_meet_X6_better rfl rfl rfl kdX6_better.2 ⟨(Nat.le_of_ble_eq_true rfl), (Nat.le_of_ble_eq_true rfl)⟩)  rfl rfl hl.1 (Nat.le_of_ble_eq_true rfl) ⟨(Nat.le_of_ble_eq_true rfl), (Nat.le_of_ble_eq_true rfl)⟩ dX6_meet_71 (fun H locs hR hS => ?_)
      refine lv_iadd hx hb dX6_meet_74 ?_
      refine lv_istore (lv' := [(7, .int ((4 : Int32) + r_11)), (6, .int ((4 : Int32) + r_9)), (5, .int y0), (0, .ref (ad r0)), (1, .int x1), (2, .int x2), (4, .int v4)]) hx hb dX6_meet_75 hl (by decide) rfl (fun ls hl => ?_)
      refine lv_aload_n hx hb dX6_meet_77 rfl (lv_at hl 3 rfl) ?_
      refine lv_iload_n hx hb dX6_meet_78 rfl (lv_at hl 4 rfl) ?_
      obtain ⟨r_13, hq_14, hf⟩ := bd1_some hf
      refine kSi (As := [.int x1]) (rest := [.ref (ad r0)]) X hR hS (zcX6_at l D cy ad ba O S1 x1 _ hq_14) (va_cwS 1 X.2.2.2.2.2.1 gX6_meet_X6_at rfl rfl rfl kdX6_at.2 ⟨(Nat.le_of_ble_eq_true rfl), (Nat.le_of_ble_eq_true rfl)⟩)  rfl rfl hl.1 (Nat.le_of_ble_eq_true rfl) ⟨(Nat.le_of_ble_eq_true rfl), (Nat.le_of_ble_eq_true rfl)⟩ dX6_meet_79 (fun H locs hR hS => ?_)
      refine lv_bipush (v := (9 : Int32)) hx hb dX6_meet_82 (by decide) ?_
      refine lv_iadd hx hb dX6_meet_84 ?_
      refine lv_iconst (v := (0 : Int32)) hx hb dX6_meet_85 (by decide) ?_
      obtain ⟨h_15, hf⟩ := chk_some hf
      refine rs_int X hR hS (r := r0) hr0 h_15 dX6_meet_86 (fun H locs hR hS => ?_)
      generalize teu S1 r0 (r_13 + (9 : Int32)).toNatClampNeg (0 : Int32) = S4 at hf hR
      replace hf := lt1_e hf
      refine lv_aload_n hx hb dX6_meet_87 rfl (lv_at hl 3 rfl) ?_
      refine lv_iload_n hx hb dX6_meet_88 rfl (lv_at hl 5 rfl) ?_
      obtain ⟨r_16, hq_17, hf⟩ := bd1_some hf
      refine kSi (As := [.int x2]) (rest := [.ref (ad r0)]) X hR hS (zcX6_at l D cy ad ba O S4 x2 _ hq_17) (va_cwS 1 X.2.2.2.2.2.1 gX6_meet_X6_at rfl rfl rfl kdX6_at.2 ⟨(Nat.le_of_ble_eq_true rfl), (Nat.le_of_ble_eq_true rfl)⟩)  rfl rfl hl.1 (Nat.le_of_ble_eq_true rfl) ⟨(Nat.le_of_ble_eq_true rfl), (Nat.le_of_ble_eq_true rfl)⟩ dX6_meet_89 (fun H locs hR hS => ?_)
      refine lv_bipush (v := (9 : Int32)) hx hb dX6_meet_92 (by decide) ?_
      refine lv_iadd hx hb dX6_meet_94 ?_
      refine lv_iconst (v := (0 : Int32)) hx hb dX6_meet_95 (by decide) ?_
      obtain ⟨h_18, hf⟩ := chk_some hf
      refine rs_int X hR hS (r := r0) hr0 h_18 dX6_meet_96 (fun H locs hR hS => ?_)
      generalize teu S4 r0 (r_16 + (9 : Int32)).toNatClampNeg (0 : Int32) = S5 at hf hR
      replace hf := lt1_e hf
      refine lv_aload_n hx hb dX6_meet_97 rfl (lv_at hl 3 rfl) ?_
      refine lv_iload_n hx hb dX6_meet_98 rfl (lv_at hl 4 rfl) ?_
      refine lv_iconst (v := (1 : Int32)) hx hb dX6_meet_99 (by decide) ?_
      obtain ⟨S6, hq_20, hf⟩ := bd1_some hf
      refine kSv (As := [.ref (ad r0), .int x1, .int (1 : Int32)]) (rest := []) X hR hS (zcX6_credit l D cy ad ba O S5 r0 x1 (1 : Int32) hr0 _ hq_20) (va_cwS 3 X.2.2.2.2.2.1 gX6_meet_X6_credit rfl rfl rfl kdX6_credit.2 ⟨(Nat.le_of_ble_eq_true rfl), (Nat.le_of_ble_eq_true rfl)⟩)  rfl rfl hl.1 (Nat.le_of_ble_eq_true rfl) ⟨(Nat.le_of_ble_eq_true rfl), (Nat.le_of_ble_eq_true rfl)⟩ dX6_meet_100 (fun H locs hR hS => ?_)
      refine lv_aload_n hx hb dX6_meet_103 rfl (lv_at hl 3 rfl) ?_
      refine lv_iload_n hx hb dX6_meet_104 rfl (lv_at hl 5 rfl) ?_
      refine lv_iconst (v := (1 : Int32)) hx hb dX6_meet_105 (by decide) ?_
      obtain ⟨S7, hq_22, hf⟩ := bd1_some hf
      refine kSv (As := [.ref (ad r0), .int x2, .int (1 : Int32)]) (rest := []) X hR hS (zcX6_credit l D cy ad ba O S6 r0 x2 (1 : Int32) hr0 _ hq_22) (va_cwS 3 X.2.2.2.2.2.1 gX6_meet_X6_credit rfl rfl rfl kdX6_credit.2 ⟨(Nat.le_of_ble_eq_true rfl), (Nat.le_of_ble_eq_true rfl)⟩)  rfl rfl hl.1 (Nat.le_of_ble_eq_true rfl) ⟨(Nat.le_of_ble_eq_true rfl), (Nat.le_of_ble_eq_true rfl)⟩ dX6_meet_106 (fun H locs hR hS => ?_)
      refine lv_aload_n hx hb dX6_meet_109 rfl (lv_at hl 3 rfl) ?_
      refine lv_iload_n hx hb dX6_meet_110 rfl (lv_at hl 4 rfl) ?_
      refine lv_iload hx hb dX6_meet_111 (lv_at hl 1 rfl) ?_
      obtain ⟨S8, hq_24, hf⟩ := bd1_some hf
      refine kSv (As := [.ref (ad r0), .int x1, .int ((4 : Int32) + r_9)]) (rest := []) X hR hS (zcX6_learn l D cy ad ba O S7 r0 x1 ((4 : Int32) + r_9) hr0 _ hq_24) (va_cwS 3 X.2.2.2.2.2.1 gX6_meet_X6_learn rfl rfl rfl kdX6_learn.2 ⟨(Nat.le_of_ble_eq_true rfl), (Nat.le_of_ble_eq_true rfl)⟩)  rfl rfl hl.1 (Nat.le_of_ble_eq_true rfl) ⟨(Nat.le_of_ble_eq_true rfl), (Nat.le_of_ble_eq_true rfl)⟩ dX6_meet_113 (fun H locs hR hS => ?_)
      refine lv_aload_n hx hb dX6_meet_116 rfl (lv_at hl 3 rfl) ?_
      refine lv_iload_n hx hb dX6_meet_117 rfl (lv_at hl 5 rfl) ?_
      refine lv_iload hx hb dX6_meet_118 (lv_at hl 0 rfl) ?_
      obtain ⟨S9, hq_26, hf⟩ := bd1_some hf
      refine kSv (As := [.ref (ad r0), .int x2, .int ((4 : Int32) + r_11)]) (rest := []) X hR hS (zcX6_learn l D cy ad ba O S8 r0 x2 ((4 : Int32) + r_11) hr0 _ hq_26) (va_cwS 3 X.2.2.2.2.2.1 gX6_meet_X6_learn rfl rfl rfl kdX6_learn.2 ⟨(Nat.le_of_ble_eq_true rfl), (Nat.le_of_ble_eq_true rfl)⟩)  rfl rfl hl.1 (Nat.le_of_ble_eq_true rfl) ⟨(Nat.le_of_ble_eq_true rfl), (Nat.le_of_ble_eq_true rfl)⟩ dX6_meet_120 (fun H locs hR hS => ?_)
      exact eV X hR hS (Option.some.inj hf) dX6_meet_123
    · replace hf := ite_f c_8 hf
      refine lv_aload_n hx hb dX6_meet_42 rfl (lv_at hl 1 rfl) ?_
      refine lv_iload_n hx hb dX6_meet_43 rfl (lv_at hl 2 rfl) ?_
      refine lv_iload hx hb dX6_meet_44 (lv_at hl 4 rfl) ?_
      obtain ⟨S10, hq_28, hf⟩ := bd1_some hf
      refine kSv (As := [.ref (ad r0), .int x1, .int v4]) (rest := []) X hR hS (zcX6_miss l D cy ad ba O S1 r0 x1 v4 hr0 _ hq_28) (va_cwS 3 X.2.2.2.2.2.1 gX6_meet_X6_miss rfl rfl rfl kdX6_miss.2 ⟨(Nat.le_of_ble_eq_true rfl), (Nat.le_of_ble_eq_true rfl)⟩)  rfl rfl hl.1 (Nat.le_of_ble_eq_true rfl) ⟨(Nat.le_of_ble_eq_true rfl), (Nat.le_of_ble_eq_true rfl)⟩ dX6_meet_46 (fun H locs hR hS => ?_)
      refine lv_aload_n hx hb dX6_meet_49 rfl (lv_at hl 1 rfl) ?_
      refine lv_iload_n hx hb dX6_meet_50 rfl (lv_at hl 3 rfl) ?_
      refine lv_iload hx hb dX6_meet_51 (lv_at hl 0 rfl) ?_
      obtain ⟨S11, hq_30, hf⟩ := bd1_some hf
      refine kSv (As := [.ref (ad r0), .int x2, .int y0]) (rest := []) X hR hS (zcX6_miss l D cy ad ba O S10 r0 x2 y0 hr0 _ hq_30) (va_cwS 3 X.2.2.2.2.2.1 gX6_meet_X6_miss rfl rfl rfl kdX6_miss.2 ⟨(Nat.le_of_ble_eq_true rfl), (Nat.le_of_ble_eq_true rfl)⟩)  rfl rfl hl.1 (Nat.le_of_ble_eq_true rfl) ⟨(Nat.le_of_ble_eq_true rfl), (Nat.le_of_ble_eq_true rfl)⟩ dX6_meet_53 (fun H locs hR hS => ?_)
      exact eV X hR hS (Option.some.inj hf) dX6_meet_56
set_option maxRecDepth 100000 in
set_option maxHeartbeats 4000000 in
theorem bX6_meet_14 {p : Program} {l : Launch} {e : Env} {s : State} {m : MethodId} {args : Array Value} {below : List Frame} {meth : Method} {c : Code} {D : va_G} {cy : Nat → ClassId} {ad : Nat → Nat} {ba : Nat} {O : Int64} {S : teS}  {r0 : Nat} {x1 : Int32} {x2 : Int32} {x3 : Int32} {res : teS} (hr0 : teK r0 = true) (X : teC wsX6_meet RX6 cX6_meet 8 none D cy ba p s m args meth c) : ∀ (S1 : teS) (y0 : Int32) (H : Heap) (locs : List Loc) (ls : Array Slot), teR D cy ad ba O S1 H → va_S (teA ba) s.heap H locs → lv_has ls 8 [(0, .ref (ad r0)), (1, .int x1), (2, .int x2), (3, .int x3)] → fX6_meet_14 r0 x1 x2 x3 S1 y0 = some res → W p l e (headSpec wsX6_meet rmX6_meet).room s m args below meth c H locs 0 0 (MQ below (va_Qv (fun (u : teS) => u = res) (fun u t => teR D cy ad ba O u t.heap) (teA ba)) args s 0 0 (teA ba)) (F0 m 14 ls [.int y0]) := by
  have hx := X.1
  have hb := X.2.1
  have hown := X.2.2.2.2.1
  intro S1 y0 H locs ls hR hS hl hf
  unfold fX6_meet_14 at hf
  refine lv_istore (lv' := [(4, .int y0), (0, .ref (ad r0)), (1, .int x1), (2, .int x2), (3, .int x3)]) hx hb dX6_meet_14 hl (by decide) rfl (fun ls hl => ?_)
  refine lv_iload_n hx hb dX6_meet_16 rfl (lv_at hl 4 rfl) ?_
  refine lv_iload_n hx hb dX6_meet_17 rfl (lv_at hl 3 rfl) ?_
  refine lv_ishr hx hb dX6_meet_18 ?_
  refine lv_iconst (v := (1 : Int32)) hx hb dX6_meet_19 (by decide) ?_
  refine lv_iand hx hb dX6_meet_20 ?_
  refine lv_iconst (v := (1 : Int32)) hx hb dX6_meet_21 (by decide) ?_
  refine lv_icmp_ne (tgt := 29) hx hb dX6_meet_22 (by decide) (fun c_2 => ?_) (fun c_2 => ?_)
  · replace hf := ite_f c_2 hf
    refine lv_iconst (v := (0 : Int32)) hx hb dX6_meet_29 (by decide) ?_
    exact bX6_meet_30 (S := S) (r0 := r0) (x1 := x1) (x2 := x2) (x3 := x3) hr0 X S1 (y0) ((0 : Int32)) _ _ _ hR hS (lv_sub hl [1, 2, 3, 0] rfl) hf
  · replace hf := ite_t c_2 hf
    refine lv_iconst (v := (1 : Int32)) hx hb dX6_meet_25 (by decide) ?_
    refine lv_goto (tgt := 30) hx hb dX6_meet_26 (by decide) ?_
    exact bX6_meet_30 (S := S) (r0 := r0) (x1 := x1) (x2 := x2) (x3 := x3) hr0 X S1 (y0) ((1 : Int32)) _ _ _ hR hS (lv_sub hl [1, 2, 3, 0] rfl) hf
set_option maxRecDepth 100000 in
set_option maxHeartbeats 4000000 in
theorem bX6_meet_0 {p : Program} {l : Launch} {e : Env} {s : State} {m : MethodId} {args : Array Value} {below : List Frame} {meth : Method} {c : Code} {D : va_G} {cy : Nat → ClassId} {ad : Nat → Nat} {ba : Nat} {O : Int64} {S : teS}  {r0 : Nat} {x1 : Int32} {x2 : Int32} {x3 : Int32} {res : teS} (hr0 : teK r0 = true) (X : teC wsX6_meet RX6 cX6_meet 8 none D cy ba p s m args meth c) (H : Heap) (locs : List Loc) (ls : Array Slot) (hR : teR D cy ad ba O S H) (hS : va_S (teA ba) s.heap H locs) (hl : lv_has ls 8 [(0, .ref (ad r0)), (1, .int x1), (2, .int x2), (3, .int x3)]) (hf : fX6_meet r0 x1 x2 x3 S = some res) : W p l e (headSpec wsX6_meet rmX6_meet).room s m args below meth c H locs 0 0 (MQ below (va_Qv (fun (u : teS) => u = res) (fun u t => teR D cy ad ba O u t.heap) (teA ba)) args s 0 0 (teA ba)) (F0 m 0 ls []) := by
  have hx := X.1
  have hb := X.2.1
  have hown := X.2.2.2.2.1
  unfold fX6_meet at hf
  refine lv_iload_n hx hb dX6_meet_0 rfl (lv_at hl 3 rfl) ?_
  refine lv_iload_n hx hb dX6_meet_1 rfl (lv_at hl 1 rfl) ?_
  refine lv_ishr hx hb dX6_meet_2 ?_
  refine lv_iconst (v := (1 : Int32)) hx hb dX6_meet_3 (by decide) ?_
  refine lv_iand hx hb dX6_meet_4 ?_
  refine lv_iconst (v := (1 : Int32)) hx hb dX6_meet_5 (by decide) ?_
  refine lv_icmp_ne (tgt := 13) hx hb dX6_meet_6 (by decide) (fun c_1 => ?_) (fun c_1 => ?_)
  · replace hf := ite_f c_1 hf
    refine lv_iconst (v := (0 : Int32)) hx hb dX6_meet_13 (by decide) ?_
    exact bX6_meet_14 (S := S) (r0 := r0) (x1 := x1) (x2 := x2) (x3 := x3) hr0 X S ((0 : Int32)) _ _ _ hR hS (lv_sub hl [0, 1, 2, 3] rfl) hf
  · replace hf := ite_t c_1 hf
    refine lv_iconst (v := (1 : Int32)) hx hb dX6_meet_9 (by decide) ?_
    refine lv_goto (tgt := 14) hx hb dX6_meet_10 (by decide) ?_
    exact bX6_meet_14 (S := S) (r0 := r0) (x1 := x1) (x2 := x2) (x3 := x3) hr0 X S ((1 : Int32)) _ _ _ hR hS (lv_sub hl [0, 1, 2, 3] rfl) hf
theorem zcX6_meet (l : Launch) (D : va_G) (cy : Nat → ClassId) (ad : Nat → Nat) (ba : Nat) (O : Int64) (S : teS) (r0 : Nat) (x1 : Int32) (x2 : Int32) (x3 : Int32) (hr0 : teK r0 = true) (res : teS) (hf : fX6_meet r0 x1 x2 x3 S = some res) : cV l yX6_meet wsX6_meet rmX6_meet D cy ad ba O S [.ref (ad r0), .int x1, .int x2, .int x3] res :=
  te_of (by decide +kernel) rfl (Nat.le_of_ble_eq_true rfl) (fun p e s m below meth c ls X hR hS hl => bX6_meet_0 (S := S) (r0 := r0) (x1 := x1) (x2 := x2) (x3 := x3) hr0 X _ _ _ hR hS hl hf)
abbrev rmX6_weekOn : Room := { frames := 4, cells := 0, slots := 0, locals := 92 }
theorem kdX6_weekOn : yX6_weekOn.cls = RX6 ∧ yX6_weekOn.cls ≠ "java/lang/invoke/MethodHandle" ∧ yX6_weekOn.cls ≠ "java/lang/invoke/VarHandle" ∧ (parseMethodDescriptor yX6_weekOn.desc).map (fun d => d.parameters.length) = some 2 := by decide +kernel
set_option maxRecDepth 100000 in
set_option maxHeartbeats 4000000 in
theorem bX6_weekOn_45 {p : Program} {l : Launch} {e : Env} {s : State} {m : MethodId} {args : Array Value} {below : List Frame} {meth : Method} {c : Code} {D : va_G} {cy : Nat → ClassId} {ad : Nat → Nat} {ba : Nat} {O : Int64} {S : teS}  {r0 : Nat} {x1 : Int32} {res : teS} (hr0 : teK r0 = true) (X : teC wsX6_weekOn RX6 cX6_weekOn 4 none D cy ba p s m args meth c) : ∀ (n : Nat), ∀ (S1 : teS) (v2 : Int32) (H : Heap) (locs : List Loc) (ls : Array Slot), teR D cy ad ba O S1 H → va_S (teA ba) s.heap H locs → lv_has ls 4 [(0, .ref (ad r0)), (2, .int v2)] → fX6_weekOn_45 r0 x1 n S1 v2 = some res → W p l e (headSpec wsX6_weekOn rmX6_weekOn).room s m args below meth c H locs 0 0 (MQ below (va_Qv (fun (u : teS) => u = res) (fun u t => teR D cy ad ba O u t.heap) (teA ba)) args s 0 0 (teA ba)) (F0 m 45 ls []) := by
  have hx := X.1
  have hb := X.2.1
  have hown := X.2.2.2.2.1
  intro n
  induction n with
  | zero =>
    intro S1 v2 H locs ls hR hS hl hf
    exact nomatch hf
  | succ n ih =>
    intro S1 v2 H locs ls hR hS hl hf
    unfold fX6_weekOn_45 at hf
    refine lv_iload_n hx hb dX6_weekOn_45 rfl (lv_at hl 1 rfl) ?_
    refine lv_aload_n hx hb dX6_weekOn_46 rfl (lv_at hl 0 rfl) ?_
    refine lv_iconst (v := (0 : Int32)) hx hb dX6_weekOn_47 (by decide) ?_
    obtain ⟨h_12, hf⟩ := chk_some hf
    refine ra_int X hR (r := r0) hr0 h_12 dX6_weekOn_48 ?_
    refine lv_icmp_ge (tgt := 102) hx hb dX6_weekOn_49 (by decide) (fun c_13 => ?_) (fun c_13 => ?_)
    · replace hf := ite_t c_13 hf
      refine lv_aload_n hx hb dX6_weekOn_102 rfl (lv_at hl 0 rfl) ?_
      refine lv_iconst (v := (1 : Int32)) hx hb dX6_weekOn_103 (by decide) ?_
      refine lv_dup2_11 hx hb dX6_weekOn_104 rfl rfl ?_
      obtain ⟨h_14, hf⟩ := chk_some hf
      refine ra_int X hR (r := r0) hr0 h_14 dX6_weekOn_105 ?_
      refine lv_iconst (v := (1 : Int32)) hx hb dX6_weekOn_106 (by decide) ?_
      refine lv_iadd hx hb dX6_weekOn_107 ?_
      refine rs_int X hR hS (r := r0) hr0 h_14 dX6_weekOn_108 (fun H locs hR hS => ?_)
      generalize teu S1 r0 (1 : Int32).toNatClampNeg ((S1 r0 (1 : Int32).toNatClampNeg) + (1 : Int32)) = S2 at hf hR
      replace hf := lt1_e hf
      exact eV X hR hS (Option.some.inj hf) dX6_weekOn_109
    · replace hf := ite_f c_13 hf
      refine lv_aload_n hx hb dX6_weekOn_52 rfl (lv_at hl 0 rfl) ?_
      refine lv_iload_n hx hb dX6_weekOn_53 rfl (lv_at hl 1 rfl) ?_
      obtain ⟨r_15, hq_16, hf⟩ := bd1_some hf
      refine kSi (As := [.int v2]) (rest := [.ref (ad r0)]) X hR hS (zcX6_at l D cy ad ba O S1 v2 _ hq_16) (va_cwS 1 X.2.2.2.2.2.1 gX6_weekOn_X6_at rfl rfl rfl kdX6_at.2 ⟨(Nat.le_of_ble_eq_true rfl), (Nat.le_of_ble_eq_true rfl)⟩)  rfl rfl hl.1 (Nat.le_of_ble_eq_true rfl) ⟨(Nat.le_of_ble_eq_true rfl), (Nat.le_of_ble_eq_true rfl)⟩ dX6_weekOn_54 (fun H locs hR hS => ?_)
      refine lv_bipush (v := (8 : Int32)) hx hb dX6_weekOn_57 (by decide) ?_
      refine lv_iadd hx hb dX6_weekOn_59 ?_
      obtain ⟨h_17, hf⟩ := chk_some hf
      refine ra_int X hR (r := r0) hr0 h_17 dX6_weekOn_60 ?_
      refine lv_istore_n (lv' := [(3, .int (S1 r0 (r_15 + (8 : Int32)).toNatClampNeg)), (0, .ref (ad r0)), (2, .int v2)]) hx hb dX6_weekOn_61 rfl hl (by decide) rfl (fun ls hl => ?_)
      refine lv_iload_n hx hb dX6_weekOn_62 rfl (lv_at hl 0 rfl) ?_
      refine lv_sipush (v := (-9999 : Int32)) hx hb dX6_weekOn_63 (by decide) ?_
      refine lv_icmp_eq (tgt := 96) hx hb dX6_weekOn_66 (by decide) (fun c_18 => ?_) (fun c_18 => ?_)
      · replace hf := ite_t c_18 hf
        refine lv_iinc (v := (v2 + (1 : Int32))) (lv' := [(2, .int (v2 + (1 : Int32))), (3, .int (S1 r0 (r_15 + (8 : Int32)).toNatClampNeg)), (0, .ref (ad r0))]) hx hb dX6_weekOn_96 hl (k := 2) rfl rfl (by decide) rfl (fun ls hl => ?_)
        refine lv_goto (tgt := 45) hx hb dX6_weekOn_99 (by decide) ?_
        exact ih S1 ((v2 + (1 : Int32))) _ _ _ hR hS (lv_sub hl [2, 0] rfl) hf
      · replace hf := ite_f c_18 hf
        refine lv_aload_n hx hb dX6_weekOn_69 rfl (lv_at hl 1 rfl) ?_
        refine lv_iload_n hx hb dX6_weekOn_70 rfl (lv_at hl 2 rfl) ?_
        refine lv_iload_n hx hb dX6_weekOn_71 rfl (lv_at hl 0 rfl) ?_
        obtain ⟨r_19, hq_20, hf⟩ := bd1_some hf
        refine kSi (As := [.ref (ad r0), .int v2, .int (S1 r0 (r_15 + (8 : Int32)).toNatClampNeg)]) (rest := []) X hR hS (zcX6_fit l D cy ad ba O S1 r0 v2 (S1 r0 (r_15 + (8 : Int32)).toNatClampNeg) hr0 _ hq_20) (va_cwS 3 X.2.2.2.2.2.1 gX6_weekOn_X6_fit rfl rfl rfl kdX6_fit.2 ⟨(Nat.le_of_ble_eq_true rfl), (Nat.le_of_ble_eq_true rfl)⟩)  rfl rfl hl.1 (Nat.le_of_ble_eq_true rfl) ⟨(Nat.le_of_ble_eq_true rfl), (Nat.le_of_ble_eq_true rfl)⟩ dX6_weekOn_72 (fun H locs hR hS => ?_)
        refine lv_if_eq (tgt := 91) hx hb dX6_weekOn_75 (by decide) (fun c_21 => ?_) (fun c_21 => ?_)
        · replace hf := ite_t c_21 hf
          refine lv_aload_n hx hb dX6_weekOn_91 rfl (lv_at hl 1 rfl) ?_
          refine lv_iload_n hx hb dX6_weekOn_92 rfl (lv_at hl 2 rfl) ?_
          obtain ⟨S3, hq_23, hf⟩ := bd1_some hf
          refine kSv (As := [.ref (ad r0), .int v2]) (rest := []) X hR hS (zcX6_partOn l D cy ad ba O S1 r0 v2 hr0 _ hq_23) (va_cwS 2 X.2.2.2.2.2.1 gX6_weekOn_X6_partOn rfl rfl rfl kdX6_partOn.2 ⟨(Nat.le_of_ble_eq_true rfl), (Nat.le_of_ble_eq_true rfl)⟩)  rfl rfl hl.1 (Nat.le_of_ble_eq_true rfl) ⟨(Nat.le_of_ble_eq_true rfl), (Nat.le_of_ble_eq_true rfl)⟩ dX6_weekOn_93 (fun H locs hR hS => ?_)
          refine lv_iinc (v := (v2 + (1 : Int32))) (lv' := [(2, .int (v2 + (1 : Int32))), (3, .int (S1 r0 (r_15 + (8 : Int32)).toNatClampNeg)), (0, .ref (ad r0))]) hx hb dX6_weekOn_96 hl (k := 2) rfl rfl (by decide) rfl (fun ls hl => ?_)
          refine lv_goto (tgt := 45) hx hb dX6_weekOn_99 (by decide) ?_
          exact ih S3 ((v2 + (1 : Int32))) _ _ _ hR hS (lv_sub hl [2, 0] rfl) hf
        · replace hf := ite_f c_21 hf
          refine lv_aload_n hx hb dX6_weekOn_78 rfl (lv_at hl 1 rfl) ?_
          refine lv_iload_n hx hb dX6_weekOn_79 rfl (lv_at hl 2 rfl) ?_
          obtain ⟨r_24, hq_25, hf⟩ := bd1_some hf
          refine kSi (As := [.int v2]) (rest := [.ref (ad r0)]) X hR hS (zcX6_at l D cy ad ba O S1 v2 _ hq_25) (va_cwS 1 X.2.2.2.2.2.1 gX6_weekOn_X6_at rfl rfl rfl kdX6_at.2 ⟨(Nat.le_of_ble_eq_true rfl), (Nat.le_of_ble_eq_true rfl)⟩)  rfl rfl hl.1 (Nat.le_of_ble_eq_true rfl) ⟨(Nat.le_of_ble_eq_true rfl), (Nat.le_of_ble_eq_true rfl)⟩ dX6_weekOn_80 (fun H locs hR hS => ?_)
          refine lv_bipush (v := (9 : Int32)) hx hb dX6_weekOn_83 (by decide) ?_
          refine lv_iadd hx hb dX6_weekOn_85 ?_
          obtain ⟨h_26, hf⟩ := chk_some hf
          refine ra_int X hR (r := r0) hr0 h_26 dX6_weekOn_86 ?_
          refine lv_iconst (v := (3 : Int32)) hx hb dX6_weekOn_87 (by decide) ?_
          refine lv_icmp_lt (tgt := 96) hx hb dX6_weekOn_88 (by decide) (fun c_27 => ?_) (fun c_27 => ?_)
          · replace hf := ite_t c_27 hf
            refine lv_iinc (v := (v2 + (1 : Int32))) (lv' := [(2, .int (v2 + (1 : Int32))), (3, .int (S1 r0 (r_15 + (8 : Int32)).toNatClampNeg)), (0, .ref (ad r0))]) hx hb dX6_weekOn_96 hl (k := 2) rfl rfl (by decide) rfl (fun ls hl => ?_)
            refine lv_goto (tgt := 45) hx hb dX6_weekOn_99 (by decide) ?_
            exact ih S1 ((v2 + (1 : Int32))) _ _ _ hR hS (lv_sub hl [2, 0] rfl) hf
          · replace hf := ite_f c_27 hf
            refine lv_aload_n hx hb dX6_weekOn_91 rfl (lv_at hl 1 rfl) ?_
            refine lv_iload_n hx hb dX6_weekOn_92 rfl (lv_at hl 2 rfl) ?_
            obtain ⟨S4, hq_29, hf⟩ := bd1_some hf
            refine kSv (As := [.ref (ad r0), .int v2]) (rest := []) X hR hS (zcX6_partOn l D cy ad ba O S1 r0 v2 hr0 _ hq_29) (va_cwS 2 X.2.2.2.2.2.1 gX6_weekOn_X6_partOn rfl rfl rfl kdX6_partOn.2 ⟨(Nat.le_of_ble_eq_true rfl), (Nat.le_of_ble_eq_true rfl)⟩)  rfl rfl hl.1 (Nat.le_of_ble_eq_true rfl) ⟨(Nat.le_of_ble_eq_true rfl), (Nat.le_of_ble_eq_true rfl)⟩ dX6_weekOn_93 (fun H locs hR hS => ?_)
            refine lv_iinc (v := (v2 + (1 : Int32))) (lv' := [(2, .int (v2 + (1 : Int32))), (3, .int (S1 r0 (r_15 + (8 : Int32)).toNatClampNeg)), (0, .ref (ad r0))]) hx hb dX6_weekOn_96 hl (k := 2) rfl rfl (by decide) rfl (fun ls hl => ?_)
            refine lv_goto (tgt := 45) hx hb dX6_weekOn_99 (by decide) ?_
            exact ih S4 ((v2 + (1 : Int32))) _ _ _ hR hS (lv_sub hl [2, 0] rfl) hf
set_option maxRecDepth 100000 in
set_option maxHeartbeats 4000000 in
theorem bX6_weekOn_2 {p : Program} {l : Launch} {e : Env} {s : State} {m : MethodId} {args : Array Value} {below : List Frame} {meth : Method} {c : Code} {D : va_G} {cy : Nat → ClassId} {ad : Nat → Nat} {ba : Nat} {O : Int64} {S : teS}  {r0 : Nat} {x1 : Int32} {res : teS} (hr0 : teK r0 = true) (X : teC wsX6_weekOn RX6 cX6_weekOn 4 none D cy ba p s m args meth c) : ∀ (n : Nat), ∀ (S1 : teS) (v2 : Int32) (H : Heap) (locs : List Loc) (ls : Array Slot), teR D cy ad ba O S1 H → va_S (teA ba) s.heap H locs → lv_has ls 4 [(0, .ref (ad r0)), (1, .int x1), (2, .int v2)] → fX6_weekOn_2 r0 x1 n S1 v2 = some res → W p l e (headSpec wsX6_weekOn rmX6_weekOn).room s m args below meth c H locs 0 0 (MQ below (va_Qv (fun (u : teS) => u = res) (fun u t => teR D cy ad ba O u t.heap) (teA ba)) args s 0 0 (teA ba)) (F0 m 2 ls []) := by
  have hx := X.1
  have hb := X.2.1
  have hown := X.2.2.2.2.1
  intro n
  induction n with
  | zero =>
    intro S1 v2 H locs ls hR hS hl hf
    exact nomatch hf
  | succ n ih =>
    intro S1 v2 H locs ls hR hS hl hf
    unfold fX6_weekOn_2 at hf
    refine lv_iload_n hx hb dX6_weekOn_2 rfl (lv_at hl 2 rfl) ?_
    refine lv_aload_n hx hb dX6_weekOn_3 rfl (lv_at hl 0 rfl) ?_
    refine lv_iconst (v := (0 : Int32)) hx hb dX6_weekOn_4 (by decide) ?_
    obtain ⟨h_1, hf⟩ := chk_some hf
    refine ra_int X hR (r := r0) hr0 h_1 dX6_weekOn_5 ?_
    refine lv_icmp_ge (tgt := 43) hx hb dX6_weekOn_6 (by decide) (fun c_2 => ?_) (fun c_2 => ?_)
    · replace hf := ite_t c_2 hf
      refine lv_iconst (v := (0 : Int32)) hx hb dX6_weekOn_43 (by decide) ?_
      refine lv_istore_n (lv' := [(2, .int (0 : Int32)), (0, .ref (ad r0)), (1, .int x1)]) hx hb dX6_weekOn_44 rfl hl (by decide) rfl (fun ls hl => ?_)
      exact bX6_weekOn_45 (S := S) (r0 := r0) (x1 := x1) hr0 X 2000 S1 ((0 : Int32)) _ _ _ hR hS (lv_sub hl [1, 0] rfl) hf
    · replace hf := ite_f c_2 hf
      refine lv_aload_n hx hb dX6_weekOn_9 rfl (lv_at hl 0 rfl) ?_
      refine lv_iload_n hx hb dX6_weekOn_10 rfl (lv_at hl 2 rfl) ?_
      obtain ⟨r_3, hq_4, hf⟩ := bd1_some hf
      refine kSi (As := [.int v2]) (rest := [.ref (ad r0)]) X hR hS (zcX6_at l D cy ad ba O S1 v2 _ hq_4) (va_cwS 1 X.2.2.2.2.2.1 gX6_weekOn_X6_at rfl rfl rfl kdX6_at.2 ⟨(Nat.le_of_ble_eq_true rfl), (Nat.le_of_ble_eq_true rfl)⟩)  rfl rfl hl.1 (Nat.le_of_ble_eq_true rfl) ⟨(Nat.le_of_ble_eq_true rfl), (Nat.le_of_ble_eq_true rfl)⟩ dX6_weekOn_11 (fun H locs hR hS => ?_)
      refine lv_bipush (v := (8 : Int32)) hx hb dX6_weekOn_14 (by decide) ?_
      refine lv_iadd hx hb dX6_weekOn_16 ?_
      obtain ⟨h_5, hf⟩ := chk_some hf
      refine ra_int X hR (r := r0) hr0 h_5 dX6_weekOn_17 ?_
      refine lv_iload_n hx hb dX6_weekOn_18 rfl (lv_at hl 2 rfl) ?_
      refine lv_icmp_le (tgt := 37) hx hb dX6_weekOn_19 (by decide) (fun c_6 => ?_) (fun c_6 => ?_)
      · replace hf := ite_t c_6 hf
        refine lv_iinc (v := (v2 + (1 : Int32))) (lv' := [(2, .int (v2 + (1 : Int32))), (0, .ref (ad r0)), (1, .int x1)]) hx hb dX6_weekOn_37 hl (k := 2) rfl rfl (by decide) rfl (fun ls hl => ?_)
        refine lv_goto (tgt := 2) hx hb dX6_weekOn_40 (by decide) ?_
        exact ih S1 ((v2 + (1 : Int32))) _ _ _ hR hS (lv_sub hl [1, 2, 0] rfl) hf
      · replace hf := ite_f c_6 hf
        refine lv_aload_n hx hb dX6_weekOn_22 rfl (lv_at hl 0 rfl) ?_
        refine lv_iload_n hx hb dX6_weekOn_23 rfl (lv_at hl 2 rfl) ?_
        refine lv_aload_n hx hb dX6_weekOn_24 rfl (lv_at hl 0 rfl) ?_
        refine lv_iload_n hx hb dX6_weekOn_25 rfl (lv_at hl 2 rfl) ?_
        obtain ⟨r_7, hq_8, hf⟩ := bd1_some hf
        refine kSi (As := [.int v2]) (rest := [.ref (ad r0), .int v2, .ref (ad r0)]) X hR hS (zcX6_at l D cy ad ba O S1 v2 _ hq_8) (va_cwS 1 X.2.2.2.2.2.1 gX6_weekOn_X6_at rfl rfl rfl kdX6_at.2 ⟨(Nat.le_of_ble_eq_true rfl), (Nat.le_of_ble_eq_true rfl)⟩)  rfl rfl hl.1 (Nat.le_of_ble_eq_true rfl) ⟨(Nat.le_of_ble_eq_true rfl), (Nat.le_of_ble_eq_true rfl)⟩ dX6_weekOn_26 (fun H locs hR hS => ?_)
        refine lv_bipush (v := (8 : Int32)) hx hb dX6_weekOn_29 (by decide) ?_
        refine lv_iadd hx hb dX6_weekOn_31 ?_
        obtain ⟨h_9, hf⟩ := chk_some hf
        refine ra_int X hR (r := r0) hr0 h_9 dX6_weekOn_32 ?_
        refine lv_iload_n hx hb dX6_weekOn_33 rfl (lv_at hl 1 rfl) ?_
        obtain ⟨S2, hq_11, hf⟩ := bd1_some hf
        refine kSv (As := [.ref (ad r0), .int v2, .int (S1 r0 (r_7 + (8 : Int32)).toNatClampNeg), .int x1]) (rest := []) X hR hS (zcX6_meet l D cy ad ba O S1 r0 v2 (S1 r0 (r_7 + (8 : Int32)).toNatClampNeg) x1 hr0 _ hq_11) (va_cwS 4 X.2.2.2.2.2.1 gX6_weekOn_X6_meet rfl rfl rfl kdX6_meet.2 ⟨(Nat.le_of_ble_eq_true rfl), (Nat.le_of_ble_eq_true rfl)⟩)  rfl rfl hl.1 (Nat.le_of_ble_eq_true rfl) ⟨(Nat.le_of_ble_eq_true rfl), (Nat.le_of_ble_eq_true rfl)⟩ dX6_weekOn_34 (fun H locs hR hS => ?_)
        refine lv_iinc (v := (v2 + (1 : Int32))) (lv' := [(2, .int (v2 + (1 : Int32))), (0, .ref (ad r0)), (1, .int x1)]) hx hb dX6_weekOn_37 hl (k := 2) rfl rfl (by decide) rfl (fun ls hl => ?_)
        refine lv_goto (tgt := 2) hx hb dX6_weekOn_40 (by decide) ?_
        exact ih S2 ((v2 + (1 : Int32))) _ _ _ hR hS (lv_sub hl [1, 2, 0] rfl) hf
set_option maxRecDepth 100000 in
set_option maxHeartbeats 4000000 in
theorem bX6_weekOn_0 {p : Program} {l : Launch} {e : Env} {s : State} {m : MethodId} {args : Array Value} {below : List Frame} {meth : Method} {c : Code} {D : va_G} {cy : Nat → ClassId} {ad : Nat → Nat} {ba : Nat} {O : Int64} {S : teS}  {r0 : Nat} {x1 : Int32} {res : teS} (hr0 : teK r0 = true) (X : teC wsX6_weekOn RX6 cX6_weekOn 4 none D cy ba p s m args meth c) (H : Heap) (locs : List Loc) (ls : Array Slot) (hR : teR D cy ad ba O S H) (hS : va_S (teA ba) s.heap H locs) (hl : lv_has ls 4 [(0, .ref (ad r0)), (1, .int x1)]) (hf : fX6_weekOn r0 x1 S = some res) : W p l e (headSpec wsX6_weekOn rmX6_weekOn).room s m args below meth c H locs 0 0 (MQ below (va_Qv (fun (u : teS) => u = res) (fun u t => teR D cy ad ba O u t.heap) (teA ba)) args s 0 0 (teA ba)) (F0 m 0 ls []) := by
  have hx := X.1
  have hb := X.2.1
  have hown := X.2.2.2.2.1
  unfold fX6_weekOn at hf
  refine lv_iconst (v := (0 : Int32)) hx hb dX6_weekOn_0 (by decide) ?_
  refine lv_istore_n (lv' := [(2, .int (0 : Int32)), (0, .ref (ad r0)), (1, .int x1)]) hx hb dX6_weekOn_1 rfl hl (by decide) rfl (fun ls hl => ?_)
  exact bX6_weekOn_2 (S := S) (r0 := r0) (x1 := x1) hr0 X 2000 S ((0 : Int32)) _ _ _ hR hS (lv_sub hl [1, 2, 0] rfl) hf
theorem zcX6_weekOn (l : Launch) (D : va_G) (cy : Nat → ClassId) (ad : Nat → Nat) (ba : Nat) (O : Int64) (S : teS) (r0 : Nat) (x1 : Int32) (hr0 : teK r0 = true) (res : teS) (hf : fX6_weekOn r0 x1 S = some res) : cV l yX6_weekOn wsX6_weekOn rmX6_weekOn D cy ad ba O S [.ref (ad r0), .int x1] res :=
  te_of (by decide +kernel) rfl (Nat.le_of_ble_eq_true rfl) (fun p e s m below meth c ls X hR hS hl => bX6_weekOn_0 (S := S) (r0 := r0) (x1 := x1) hr0 X _ _ _ hR hS hl hf)
abbrev rmX6_laySets : Room := { frames := 4, cells := 0, slots := 0, locals := 87 }
theorem kdX6_laySets : yX6_laySets.cls = RX6 ∧ yX6_laySets.cls ≠ "java/lang/invoke/MethodHandle" ∧ yX6_laySets.cls ≠ "java/lang/invoke/VarHandle" ∧ (parseMethodDescriptor yX6_laySets.desc).map (fun d => d.parameters.length) = some 1 := by decide +kernel
theorem wX6_laySets_32 : Cond.fieldLink RX6 32 "TandemExchangeModel" "pairs" "[I" ∈ wsX6_laySets := by decide +kernel
theorem iX6_laySets_6 : ∀ w ∈ wsX60, w ∈ wsX6_laySets := fun _ h => List.mem_cons_of_mem _ (List.mem_append_right _ h)
theorem wX6_laySets_35 : Cond.fieldLink RX6 35 "TandemExchangeModel" "sums" "[I" ∈ wsX6_laySets := by decide +kernel
set_option maxRecDepth 100000 in
set_option maxHeartbeats 4000000 in
theorem bX6_laySets_231 {p : Program} {l : Launch} {e : Env} {s : State} {m : MethodId} {args : Array Value} {below : List Frame} {meth : Method} {c : Code} {D : va_G} {cy : Nat → ClassId} {ad : Nat → Nat} {ba : Nat} {O : Int64} {S : teS}  {r1 : Nat} {res : teS} (hr1 : teK r1 = true) (X : teC wsX6_laySets RX6 cX6_laySets 10 none D cy ba p s m args meth c) {q2 : teS → Int32 → Option teS} (hq2 : ∀ (S1 : teS) (v2 : Int32) (H : Heap) (locs : List Loc) (ls : Array Slot), teR D cy ad ba O S1 H → va_S (teA ba) s.heap H locs → lv_has ls 10 [(0, .ref (ad 369)), (1, .ref (ad r1)), (2, .int v2)] → q2 S1 v2 = some res → W p l e (headSpec wsX6_laySets rmX6_laySets).room s m args below meth c H locs 0 0 (MQ below (va_Qv (fun (u : teS) => u = res) (fun u t => teR D cy ad ba O u t.heap) (teA ba)) args s 0 0 (teA ba)) (F0 m 2 ls [])) {q102 : teS → Int32 → Int32 → Int32 → Int32 → Option teS} (hq102 : ∀ (S1 : teS) (v2 : Int32) (v3 : Int32) (v4 : Int32) (v5 : Int32) (H : Heap) (locs : List Loc) (ls : Array Slot), teR D cy ad ba O S1 H → va_S (teA ba) s.heap H locs → lv_has ls 10 [(0, .ref (ad 369)), (1, .ref (ad r1)), (2, .int v2), (3, .int v3), (4, .int v4), (5, .int v5)] → q102 S1 v2 v3 v4 v5 = some res → W p l e (headSpec wsX6_laySets rmX6_laySets).room s m args below meth c H locs 0 0 (MQ below (va_Qv (fun (u : teS) => u = res) (fun u t => teR D cy ad ba O u t.heap) (teA ba)) args s 0 0 (teA ba)) (F0 m 102 ls [])) : ∀ (S1 : teS) (v2 : Int32) (v3 : Int32) (v4 : Int32) (v5 : Int32) (v8 : Int32) (v9 : Int32) (y0 : Int32) (y1 : Int32) (H : Heap) (locs : List Loc) (ls : Array Slot), teR D cy ad ba O S1 H → va_S (teA ba) s.heap H locs → lv_has ls 10 [(0, .ref (ad 369)), (1, .ref (ad r1)), (2, .int v2), (3, .int v3), (4, .int v4), (5, .int v5), (8, .int v8), (9, .int v9)] → fX6_laySets_231 r1 q2 q102 S1 v2 v3 v4 v5 v8 v9 y0 y1 = some res → W p l e (headSpec wsX6_laySets rmX6_laySets).room s m args below meth c H locs 0 0 (MQ below (va_Qv (fun (u : teS) => u = res) (fun u t => teR D cy ad ba O u t.heap) (teA ba)) args s 0 0 (teA ba)) (F0 m 231 ls [.int y0, .int y1, .ref (ad 377)]) := by
  have hx := X.1
  have hb := X.2.1
  have hown := X.2.2.2.2.1
  intro S1 v2 v3 v4 v5 v8 v9 y0 y1 H locs ls hR hS hl hf
  unfold fX6_laySets_231 at hf
  obtain ⟨h_25, hf⟩ := chk_some hf
  refine rs_int X hR hS (r := 377) rfl h_25 dX6_laySets_231 (fun H locs hR hS => ?_)
  generalize teu S1 377 y1.toNatClampNeg y0 = S2 at hf hR
  replace hf := lt1_e hf
  refine lv_aload_n hx hb dX6_laySets_232 rfl (lv_at hl 0 rfl) ?_
  refine rg_6_12 X hR iX6_laySets_6 wX6_laySets_35 dX6_laySets_233 ?_
  refine lv_iload_n hx hb dX6_laySets_236 rfl (lv_at hl 2 rfl) ?_
  refine lv_iload hx hb dX6_laySets_237 (lv_at hl 7 rfl) ?_
  refine lv_if_eq (tgt := 247) hx hb dX6_laySets_239 (by decide) (fun c_26 => ?_) (fun c_26 => ?_)
  · replace hf := ite_t c_26 hf
    refine lv_aload_n hx hb dX6_laySets_247 rfl (lv_at hl 0 rfl) ?_
    refine rg_6_12 X hR iX6_laySets_6 wX6_laySets_35 dX6_laySets_248 ?_
    refine lv_iload_n hx hb dX6_laySets_251 rfl (lv_at hl 2 rfl) ?_
    obtain ⟨h_27, hf⟩ := chk_some hf
    refine ra_int X hR (r := 378) rfl h_27 dX6_laySets_252 ?_
    refine rs_int X hR hS (r := 378) rfl h_27 dX6_laySets_253 (fun H locs hR hS => ?_)
    generalize teu S2 378 v2.toNatClampNeg (S2 378 v2.toNatClampNeg) = S3 at hf hR
    replace hf := lt1_e hf
    refine lv_iinc (v := (v5 + (1 : Int32))) (lv' := [(5, .int (v5 + (1 : Int32))), (0, .ref (ad 369)), (1, .ref (ad r1)), (2, .int v2), (3, .int v3), (4, .int v4), (8, .int v8), (9, .int v9)]) hx hb dX6_laySets_254 hl (k := 5) rfl rfl (by decide) rfl (fun ls hl => ?_)
    refine lv_goto (tgt := 102) hx hb dX6_laySets_257 (by decide) ?_
    exact hq102 S3 (v2) (v3) (v4) ((v5 + (1 : Int32))) _ _ _ hR hS (lv_sub hl [1, 2, 3, 4, 5, 0] rfl) hf
  · replace hf := ite_f c_26 hf
    refine lv_iload hx hb dX6_laySets_242 (lv_at hl 6 rfl) ?_
    refine lv_goto (tgt := 253) hx hb dX6_laySets_244 (by decide) ?_
    obtain ⟨h_28, hf⟩ := chk_some hf
    refine rs_int X hR hS (r := 378) rfl h_28 dX6_laySets_253 (fun H locs hR hS => ?_)
    generalize teu S2 378 v2.toNatClampNeg v8 = S4 at hf hR
    replace hf := lt1_e hf
    refine lv_iinc (v := (v5 + (1 : Int32))) (lv' := [(5, .int (v5 + (1 : Int32))), (0, .ref (ad 369)), (1, .ref (ad r1)), (2, .int v2), (3, .int v3), (4, .int v4), (8, .int v8), (9, .int v9)]) hx hb dX6_laySets_254 hl (k := 5) rfl rfl (by decide) rfl (fun ls hl => ?_)
    refine lv_goto (tgt := 102) hx hb dX6_laySets_257 (by decide) ?_
    exact hq102 S4 (v2) (v3) (v4) ((v5 + (1 : Int32))) _ _ _ hR hS (lv_sub hl [1, 2, 3, 4, 5, 0] rfl) hf
set_option maxRecDepth 100000 in
set_option maxHeartbeats 4000000 in
theorem bX6_laySets_208 {p : Program} {l : Launch} {e : Env} {s : State} {m : MethodId} {args : Array Value} {below : List Frame} {meth : Method} {c : Code} {D : va_G} {cy : Nat → ClassId} {ad : Nat → Nat} {ba : Nat} {O : Int64} {S : teS}  {r1 : Nat} {res : teS} (hr1 : teK r1 = true) (X : teC wsX6_laySets RX6 cX6_laySets 10 none D cy ba p s m args meth c) {q2 : teS → Int32 → Option teS} (hq2 : ∀ (S1 : teS) (v2 : Int32) (H : Heap) (locs : List Loc) (ls : Array Slot), teR D cy ad ba O S1 H → va_S (teA ba) s.heap H locs → lv_has ls 10 [(0, .ref (ad 369)), (1, .ref (ad r1)), (2, .int v2)] → q2 S1 v2 = some res → W p l e (headSpec wsX6_laySets rmX6_laySets).room s m args below meth c H locs 0 0 (MQ below (va_Qv (fun (u : teS) => u = res) (fun u t => teR D cy ad ba O u t.heap) (teA ba)) args s 0 0 (teA ba)) (F0 m 2 ls [])) {q102 : teS → Int32 → Int32 → Int32 → Int32 → Option teS} (hq102 : ∀ (S1 : teS) (v2 : Int32) (v3 : Int32) (v4 : Int32) (v5 : Int32) (H : Heap) (locs : List Loc) (ls : Array Slot), teR D cy ad ba O S1 H → va_S (teA ba) s.heap H locs → lv_has ls 10 [(0, .ref (ad 369)), (1, .ref (ad r1)), (2, .int v2), (3, .int v3), (4, .int v4), (5, .int v5)] → q102 S1 v2 v3 v4 v5 = some res → W p l e (headSpec wsX6_laySets rmX6_laySets).room s m args below meth c H locs 0 0 (MQ below (va_Qv (fun (u : teS) => u = res) (fun u t => teR D cy ad ba O u t.heap) (teA ba)) args s 0 0 (teA ba)) (F0 m 102 ls [])) : ∀ (S1 : teS) (v2 : Int32) (v3 : Int32) (v4 : Int32) (v5 : Int32) (v7 : Int32) (v8 : Int32) (y0 : Int32) (H : Heap) (locs : List Loc) (ls : Array Slot), teR D cy ad ba O S1 H → va_S (teA ba) s.heap H locs → lv_has ls 10 [(0, .ref (ad 369)), (1, .ref (ad r1)), (2, .int v2), (3, .int v3), (4, .int v4), (5, .int v5), (7, .int v7), (8, .int v8)] → fX6_laySets_208 r1 q2 q102 S1 v2 v3 v4 v5 v7 v8 y0 = some res → W p l e (headSpec wsX6_laySets rmX6_laySets).room s m args below meth c H locs 0 0 (MQ below (va_Qv (fun (u : teS) => u = res) (fun u t => teR D cy ad ba O u t.heap) (teA ba)) args s 0 0 (teA ba)) (F0 m 208 ls [.int y0]) := by
  have hx := X.1
  have hb := X.2.1
  have hown := X.2.2.2.2.1
  intro S1 v2 v3 v4 v5 v7 v8 y0 H locs ls hR hS hl hf
  unfold fX6_laySets_208 at hf
  refine lv_istore (lv' := [(9, .int y0), (0, .ref (ad 369)), (1, .ref (ad r1)), (2, .int v2), (3, .int v3), (4, .int v4), (5, .int v5), (7, .int v7), (8, .int v8)]) hx hb dX6_laySets_208 hl (by decide) rfl (fun ls hl => ?_)
  refine lv_aload_n hx hb dX6_laySets_210 rfl (lv_at hl 1 rfl) ?_
  refine rg_6_11 X hR iX6_laySets_6 wX6_laySets_32 dX6_laySets_211 ?_
  refine lv_iload_n hx hb dX6_laySets_214 rfl (lv_at hl 3 rfl) ?_
  refine lv_iload hx hb dX6_laySets_215 (lv_at hl 0 rfl) ?_
  refine lv_if_eq (tgt := 225) hx hb dX6_laySets_217 (by decide) (fun c_23 => ?_) (fun c_23 => ?_)
  · replace hf := ite_t c_23 hf
    refine lv_aload_n hx hb dX6_laySets_225 rfl (lv_at hl 1 rfl) ?_
    refine rg_6_11 X hR iX6_laySets_6 wX6_laySets_32 dX6_laySets_226 ?_
    refine lv_iload_n hx hb dX6_laySets_229 rfl (lv_at hl 3 rfl) ?_
    obtain ⟨h_24, hf⟩ := chk_some hf
    refine ra_int X hR (r := 377) rfl h_24 dX6_laySets_230 ?_
    exact bX6_laySets_231 (S := S) (r1 := r1) hr1 X hq2 hq102 S1 (v2) (v3) (v4) (v5) (v8) (y0) ((S1 377 v2.toNatClampNeg)) (v2) _ _ _ hR hS (lv_sub hl [1, 2, 3, 4, 5, 6, 8, 0] rfl) hf
  · replace hf := ite_f c_23 hf
    refine lv_iload hx hb dX6_laySets_220 (lv_at hl 7 rfl) ?_
    refine lv_goto (tgt := 231) hx hb dX6_laySets_222 (by decide) ?_
    exact bX6_laySets_231 (S := S) (r1 := r1) hr1 X hq2 hq102 S1 (v2) (v3) (v4) (v5) (v8) (y0) (v7) (v2) _ _ _ hR hS (lv_sub hl [1, 2, 3, 4, 5, 6, 8, 0] rfl) hf
set_option maxRecDepth 100000 in
set_option maxHeartbeats 4000000 in
theorem bX6_laySets_102 {p : Program} {l : Launch} {e : Env} {s : State} {m : MethodId} {args : Array Value} {below : List Frame} {meth : Method} {c : Code} {D : va_G} {cy : Nat → ClassId} {ad : Nat → Nat} {ba : Nat} {O : Int64} {S : teS}  {r1 : Nat} {res : teS} (hr1 : teK r1 = true) (X : teC wsX6_laySets RX6 cX6_laySets 10 none D cy ba p s m args meth c) {q2 : teS → Int32 → Option teS} (hq2 : ∀ (S1 : teS) (v2 : Int32) (H : Heap) (locs : List Loc) (ls : Array Slot), teR D cy ad ba O S1 H → va_S (teA ba) s.heap H locs → lv_has ls 10 [(0, .ref (ad 369)), (1, .ref (ad r1)), (2, .int v2)] → q2 S1 v2 = some res → W p l e (headSpec wsX6_laySets rmX6_laySets).room s m args below meth c H locs 0 0 (MQ below (va_Qv (fun (u : teS) => u = res) (fun u t => teR D cy ad ba O u t.heap) (teA ba)) args s 0 0 (teA ba)) (F0 m 2 ls [])) : ∀ (n : Nat), ∀ (S1 : teS) (v2 : Int32) (v3 : Int32) (v4 : Int32) (v5 : Int32) (H : Heap) (locs : List Loc) (ls : Array Slot), teR D cy ad ba O S1 H → va_S (teA ba) s.heap H locs → lv_has ls 10 [(0, .ref (ad 369)), (1, .ref (ad r1)), (2, .int v2), (3, .int v3), (4, .int v4), (5, .int v5)] → fX6_laySets_102 r1 q2 n S1 v2 v3 v4 v5 = some res → W p l e (headSpec wsX6_laySets rmX6_laySets).room s m args below meth c H locs 0 0 (MQ below (va_Qv (fun (u : teS) => u = res) (fun u t => teR D cy ad ba O u t.heap) (teA ba)) args s 0 0 (teA ba)) (F0 m 102 ls []) := by
  have hx := X.1
  have hb := X.2.1
  have hown := X.2.2.2.2.1
  intro n
  induction n with
  | zero =>
    intro S1 v2 v3 v4 v5 H locs ls hR hS hl hf
    exact nomatch hf
  | succ n ih =>
    intro S1 v2 v3 v4 v5 H locs ls hR hS hl hf
    unfold fX6_laySets_102 at hf
    refine lv_iload hx hb dX6_laySets_102 (lv_at hl 5 rfl) ?_
    refine lv_aload_n hx hb dX6_laySets_104 rfl (lv_at hl 1 rfl) ?_
    refine lv_iconst (v := (0 : Int32)) hx hb dX6_laySets_105 (by decide) ?_
    obtain ⟨h_10, hf⟩ := chk_some hf
    refine ra_int X hR (r := r1) hr1 h_10 dX6_laySets_106 ?_
    refine lv_icmp_ge (tgt := 260) hx hb dX6_laySets_107 (by decide) (fun c_11 => ?_) (fun c_11 => ?_)
    · replace hf := ite_t c_11 hf
      refine lv_iinc (v := (v2 + (1 : Int32))) (lv' := [(2, .int (v2 + (1 : Int32))), (0, .ref (ad 369)), (1, .ref (ad r1)), (3, .int v3), (4, .int v4), (5, .int v5)]) hx hb dX6_laySets_260 hl (k := 2) rfl rfl (by decide) rfl (fun ls hl => ?_)
      refine lv_goto (tgt := 2) hx hb dX6_laySets_263 (by decide) ?_
      exact hq2 S1 ((v2 + (1 : Int32))) _ _ _ hR hS (lv_sub hl [1, 2, 0] rfl) hf
    · replace hf := ite_f c_11 hf
      refine lv_iload hx hb dX6_laySets_110 (lv_at hl 4 rfl) ?_
      refine lv_iload hx hb dX6_laySets_112 (lv_at hl 5 rfl) ?_
      refine lv_ishr hx hb dX6_laySets_114 ?_
      refine lv_iconst (v := (1 : Int32)) hx hb dX6_laySets_115 (by decide) ?_
      refine lv_iand hx hb dX6_laySets_116 ?_
      refine lv_iconst (v := (1 : Int32)) hx hb dX6_laySets_117 (by decide) ?_
      refine lv_icmp_ne (tgt := 254) hx hb dX6_laySets_118 (by decide) (fun c_12 => ?_) (fun c_12 => ?_)
      · replace hf := ite_f c_12 hf
        refine lv_iinc (v := (v5 + (1 : Int32))) (lv' := [(5, .int (v5 + (1 : Int32))), (0, .ref (ad 369)), (1, .ref (ad r1)), (2, .int v2), (3, .int v3), (4, .int v4)]) hx hb dX6_laySets_254 hl (k := 5) rfl rfl (by decide) rfl (fun ls hl => ?_)
        refine lv_goto (tgt := 102) hx hb dX6_laySets_257 (by decide) ?_
        exact ih S1 (v2) (v3) (v4) ((v5 + (1 : Int32))) _ _ _ hR hS (lv_sub hl [1, 2, 3, 4, 5, 0] rfl) hf
      · replace hf := ite_t c_12 hf
        refine lv_aload_n hx hb dX6_laySets_121 rfl (lv_at hl 1 rfl) ?_
        refine lv_iload_n hx hb dX6_laySets_122 rfl (lv_at hl 3 rfl) ?_
        refine lv_iload hx hb dX6_laySets_123 (lv_at hl 5 rfl) ?_
        obtain ⟨r_13, hq_14, hf⟩ := bd1_some hf
        refine kSi (As := [.ref (ad r1), .int v3, .int v5]) (rest := []) X hR hS (zcX6_fit l D cy ad ba O S1 r1 v3 v5 hr1 _ hq_14) (va_cwS 3 X.2.2.2.2.2.1 gX6_laySets_X6_fit rfl rfl rfl kdX6_fit.2 ⟨(Nat.le_of_ble_eq_true rfl), (Nat.le_of_ble_eq_true rfl)⟩)  rfl rfl hl.1 (Nat.le_of_ble_eq_true rfl) ⟨(Nat.le_of_ble_eq_true rfl), (Nat.le_of_ble_eq_true rfl)⟩ dX6_laySets_125 (fun H locs hR hS => ?_)
        refine lv_if_eq (tgt := 254) hx hb dX6_laySets_128 (by decide) (fun c_15 => ?_) (fun c_15 => ?_)
        · replace hf := ite_t c_15 hf
          refine lv_iinc (v := (v5 + (1 : Int32))) (lv' := [(5, .int (v5 + (1 : Int32))), (0, .ref (ad 369)), (1, .ref (ad r1)), (2, .int v2), (3, .int v3), (4, .int v4)]) hx hb dX6_laySets_254 hl (k := 5) rfl rfl (by decide) rfl (fun ls hl => ?_)
          refine lv_goto (tgt := 102) hx hb dX6_laySets_257 (by decide) ?_
          exact ih S1 (v2) (v3) (v4) ((v5 + (1 : Int32))) _ _ _ hR hS (lv_sub hl [1, 2, 3, 4, 5, 0] rfl) hf
        · replace hf := ite_f c_15 hf
          refine lv_iload hx hb dX6_laySets_131 (lv_at hl 4 rfl) ?_
          refine lv_iconst (v := (1 : Int32)) hx hb dX6_laySets_133 (by decide) ?_
          refine lv_iload hx hb dX6_laySets_134 (lv_at hl 5 rfl) ?_
          refine lv_ishl hx hb dX6_laySets_136 ?_
          refine lv_iconst (v := (-1 : Int32)) hx hb dX6_laySets_137 (by decide) ?_
          refine lv_ixor hx hb dX6_laySets_138 ?_
          refine lv_iand hx hb dX6_laySets_139 ?_
          refine lv_istore (lv' := [(6, .int (v4 &&& (((1 : Int32) <<< (v5 &&& 31)) ^^^ (-1 : Int32)))), (0, .ref (ad 369)), (1, .ref (ad r1)), (2, .int v2), (3, .int v3), (4, .int v4), (5, .int v5)]) hx hb dX6_laySets_140 hl (by decide) rfl (fun ls hl => ?_)
          refine lv_aload_n hx hb dX6_laySets_142 rfl (lv_at hl 1 rfl) ?_
          refine rg_6_11 X hR iX6_laySets_6 wX6_laySets_32 dX6_laySets_143 ?_
          refine lv_iload hx hb dX6_laySets_146 (lv_at hl 0 rfl) ?_
          obtain ⟨h_16, hf⟩ := chk_some hf
          refine ra_int X hR (r := 377) rfl h_16 dX6_laySets_148 ?_
          refine lv_iconst (v := (1 : Int32)) hx hb dX6_laySets_149 (by decide) ?_
          refine lv_iadd hx hb dX6_laySets_150 ?_
          refine lv_istore (lv' := [(7, .int ((S1 377 (v4 &&& (((1 : Int32) <<< (v5 &&& 31)) ^^^ (-1 : Int32))).toNatClampNeg) + (1 : Int32))), (6, .int (v4 &&& (((1 : Int32) <<< (v5 &&& 31)) ^^^ (-1 : Int32)))), (0, .ref (ad 369)), (1, .ref (ad r1)), (2, .int v2), (3, .int v3), (4, .int v4), (5, .int v5)]) hx hb dX6_laySets_151 hl (by decide) rfl (fun ls hl => ?_)
          refine lv_aload_n hx hb dX6_laySets_153 rfl (lv_at hl 2 rfl) ?_
          refine rg_6_12 X hR iX6_laySets_6 wX6_laySets_35 dX6_laySets_154 ?_
          refine lv_iload hx hb dX6_laySets_157 (lv_at hl 1 rfl) ?_
          refine ra_int X hR (r := 378) rfl h_16 dX6_laySets_159 ?_
          refine lv_aload_n hx hb dX6_laySets_160 rfl (lv_at hl 3 rfl) ?_
          refine lv_iload_n hx hb dX6_laySets_161 rfl (lv_at hl 5 rfl) ?_
          refine lv_iload hx hb dX6_laySets_162 (lv_at hl 7 rfl) ?_
          obtain ⟨r_17, hq_18, hf⟩ := bd1_some hf
          refine kSi (As := [.ref (ad r1), .int v3, .int v5]) (rest := [.int (S1 378 (v4 &&& (((1 : Int32) <<< (v5 &&& 31)) ^^^ (-1 : Int32))).toNatClampNeg)]) X hR hS (zcX6_valueOf l D cy ad ba O S1 r1 v3 v5 hr1 _ hq_18) (va_cwS 3 X.2.2.2.2.2.1 gX6_laySets_X6_valueOf rfl rfl rfl kdX6_valueOf.2 ⟨(Nat.le_of_ble_eq_true rfl), (Nat.le_of_ble_eq_true rfl)⟩)  rfl rfl hl.1 (Nat.le_of_ble_eq_true rfl) ⟨(Nat.le_of_ble_eq_true rfl), (Nat.le_of_ble_eq_true rfl)⟩ dX6_laySets_164 (fun H locs hR hS => ?_)
          refine lv_iadd hx hb dX6_laySets_167 ?_
          refine lv_istore (lv' := [(8, .int ((S1 378 (v4 &&& (((1 : Int32) <<< (v5 &&& 31)) ^^^ (-1 : Int32))).toNatClampNeg) + r_17)), (7, .int ((S1 377 (v4 &&& (((1 : Int32) <<< (v5 &&& 31)) ^^^ (-1 : Int32))).toNatClampNeg) + (1 : Int32))), (6, .int (v4 &&& (((1 : Int32) <<< (v5 &&& 31)) ^^^ (-1 : Int32)))), (0, .ref (ad 369)), (1, .ref (ad r1)), (2, .int v2), (3, .int v3), (4, .int v4), (5, .int v5)]) hx hb dX6_laySets_168 hl (by decide) rfl (fun ls hl => ?_)
          refine lv_iload hx hb dX6_laySets_170 (lv_at hl 1 rfl) ?_
          refine lv_aload_n hx hb dX6_laySets_172 rfl (lv_at hl 3 rfl) ?_
          refine rg_6_11 X hR iX6_laySets_6 wX6_laySets_32 dX6_laySets_173 ?_
          refine lv_iload_n hx hb dX6_laySets_176 rfl (lv_at hl 5 rfl) ?_
          obtain ⟨h_19, hf⟩ := chk_some hf
          refine ra_int X hR (r := 377) rfl h_19 dX6_laySets_177 ?_
          refine lv_icmp_gt (tgt := 203) hx hb dX6_laySets_178 (by decide) (fun c_20 => ?_) (fun c_20 => ?_)
          · replace hf := ite_t c_20 hf
            refine lv_iconst (v := (1 : Int32)) hx hb dX6_laySets_203 (by decide) ?_
            refine lv_goto (tgt := 208) hx hb dX6_laySets_204 (by decide) ?_
            exact bX6_laySets_208 (S := S) (r1 := r1) hr1 X hq2 ih S1 (v2) (v3) (v4) (v5) (((S1 377 (v4 &&& (((1 : Int32) <<< (v5 &&& 31)) ^^^ (-1 : Int32))).toNatClampNeg) + (1 : Int32))) (((S1 378 (v4 &&& (((1 : Int32) <<< (v5 &&& 31)) ^^^ (-1 : Int32))).toNatClampNeg) + r_17)) ((1 : Int32)) _ _ _ hR hS (lv_sub hl [3, 4, 5, 6, 7, 8, 1, 0] rfl) hf
          · replace hf := ite_f c_20 hf
            refine lv_iload hx hb dX6_laySets_181 (lv_at hl 1 rfl) ?_
            refine lv_aload_n hx hb dX6_laySets_183 rfl (lv_at hl 3 rfl) ?_
            refine rg_6_11 X hR iX6_laySets_6 wX6_laySets_32 dX6_laySets_184 ?_
            refine lv_iload_n hx hb dX6_laySets_187 rfl (lv_at hl 5 rfl) ?_
            refine ra_int X hR (r := 377) rfl h_19 dX6_laySets_188 ?_
            refine lv_icmp_ne (tgt := 207) hx hb dX6_laySets_189 (by decide) (fun c_21 => ?_) (fun c_21 => ?_)
            · replace hf := ite_f c_21 hf
              refine lv_iconst (v := (0 : Int32)) hx hb dX6_laySets_207 (by decide) ?_
              exact bX6_laySets_208 (S := S) (r1 := r1) hr1 X hq2 ih S1 (v2) (v3) (v4) (v5) (((S1 377 (v4 &&& (((1 : Int32) <<< (v5 &&& 31)) ^^^ (-1 : Int32))).toNatClampNeg) + (1 : Int32))) (((S1 378 (v4 &&& (((1 : Int32) <<< (v5 &&& 31)) ^^^ (-1 : Int32))).toNatClampNeg) + r_17)) ((0 : Int32)) _ _ _ hR hS (lv_sub hl [3, 4, 5, 6, 7, 8, 1, 0] rfl) hf
            · replace hf := ite_t c_21 hf
              refine lv_iload hx hb dX6_laySets_192 (lv_at hl 0 rfl) ?_
              refine lv_aload_n hx hb dX6_laySets_194 rfl (lv_at hl 3 rfl) ?_
              refine rg_6_12 X hR iX6_laySets_6 wX6_laySets_35 dX6_laySets_195 ?_
              refine lv_iload_n hx hb dX6_laySets_198 rfl (lv_at hl 5 rfl) ?_
              refine ra_int X hR (r := 378) rfl h_19 dX6_laySets_199 ?_
              refine lv_icmp_le (tgt := 207) hx hb dX6_laySets_200 (by decide) (fun c_22 => ?_) (fun c_22 => ?_)
              · replace hf := ite_t c_22 hf
                refine lv_iconst (v := (0 : Int32)) hx hb dX6_laySets_207 (by decide) ?_
                exact bX6_laySets_208 (S := S) (r1 := r1) hr1 X hq2 ih S1 (v2) (v3) (v4) (v5) (((S1 377 (v4 &&& (((1 : Int32) <<< (v5 &&& 31)) ^^^ (-1 : Int32))).toNatClampNeg) + (1 : Int32))) (((S1 378 (v4 &&& (((1 : Int32) <<< (v5 &&& 31)) ^^^ (-1 : Int32))).toNatClampNeg) + r_17)) ((0 : Int32)) _ _ _ hR hS (lv_sub hl [3, 4, 5, 6, 7, 8, 1, 0] rfl) hf
              · replace hf := ite_f c_22 hf
                refine lv_iconst (v := (1 : Int32)) hx hb dX6_laySets_203 (by decide) ?_
                refine lv_goto (tgt := 208) hx hb dX6_laySets_204 (by decide) ?_
                exact bX6_laySets_208 (S := S) (r1 := r1) hr1 X hq2 ih S1 (v2) (v3) (v4) (v5) (((S1 377 (v4 &&& (((1 : Int32) <<< (v5 &&& 31)) ^^^ (-1 : Int32))).toNatClampNeg) + (1 : Int32))) (((S1 378 (v4 &&& (((1 : Int32) <<< (v5 &&& 31)) ^^^ (-1 : Int32))).toNatClampNeg) + r_17)) ((1 : Int32)) _ _ _ hR hS (lv_sub hl [3, 4, 5, 6, 7, 8, 1, 0] rfl) hf
set_option maxRecDepth 100000 in
set_option maxHeartbeats 4000000 in
theorem bX6_laySets_62 {p : Program} {l : Launch} {e : Env} {s : State} {m : MethodId} {args : Array Value} {below : List Frame} {meth : Method} {c : Code} {D : va_G} {cy : Nat → ClassId} {ad : Nat → Nat} {ba : Nat} {O : Int64} {S : teS}  {r1 : Nat} {res : teS} (hr1 : teK r1 = true) (X : teC wsX6_laySets RX6 cX6_laySets 10 none D cy ba p s m args meth c) {q2 : teS → Int32 → Option teS} (hq2 : ∀ (S1 : teS) (v2 : Int32) (H : Heap) (locs : List Loc) (ls : Array Slot), teR D cy ad ba O S1 H → va_S (teA ba) s.heap H locs → lv_has ls 10 [(0, .ref (ad 369)), (1, .ref (ad r1)), (2, .int v2)] → q2 S1 v2 = some res → W p l e (headSpec wsX6_laySets rmX6_laySets).room s m args below meth c H locs 0 0 (MQ below (va_Qv (fun (u : teS) => u = res) (fun u t => teR D cy ad ba O u t.heap) (teA ba)) args s 0 0 (teA ba)) (F0 m 2 ls [])) : ∀ (S1 : teS) (v2 : Int32) (v3 : Int32) (y0 : Int32) (H : Heap) (locs : List Loc) (ls : Array Slot), teR D cy ad ba O S1 H → va_S (teA ba) s.heap H locs → lv_has ls 10 [(0, .ref (ad 369)), (1, .ref (ad r1)), (2, .int v2), (3, .int v3)] → fX6_laySets_62 r1 q2 S1 v2 v3 y0 = some res → W p l e (headSpec wsX6_laySets rmX6_laySets).room s m args below meth c H locs 0 0 (MQ below (va_Qv (fun (u : teS) => u = res) (fun u t => teR D cy ad ba O u t.heap) (teA ba)) args s 0 0 (teA ba)) (F0 m 62 ls [.int y0]) := by
  have hx := X.1
  have hb := X.2.1
  have hown := X.2.2.2.2.1
  intro S1 v2 v3 y0 H locs ls hR hS hl hf
  unfold fX6_laySets_62 at hf
  refine lv_istore (lv' := [(4, .int y0), (0, .ref (ad 369)), (1, .ref (ad r1)), (2, .int v2), (3, .int v3)]) hx hb dX6_laySets_62 hl (by decide) rfl (fun ls hl => ?_)
  refine lv_iload_n hx hb dX6_laySets_64 rfl (lv_at hl 4 rfl) ?_
  refine lv_aload_n hx hb dX6_laySets_65 rfl (lv_at hl 2 rfl) ?_
  refine lv_iconst (v := (0 : Int32)) hx hb dX6_laySets_66 (by decide) ?_
  obtain ⟨h_6, hf⟩ := chk_some hf
  refine ra_int X hR (r := r1) hr1 h_6 dX6_laySets_67 ?_
  refine lv_icmp_ge (tgt := 97) hx hb dX6_laySets_68 (by decide) (fun c_7 => ?_) (fun c_7 => ?_)
  · replace hf := ite_t c_7 hf
    refine lv_iload_n hx hb dX6_laySets_97 rfl (lv_at hl 4 rfl) ?_
    refine lv_iconst (v := (1 : Int32)) hx hb dX6_laySets_98 (by decide) ?_
    refine lv_iadd hx hb dX6_laySets_99 ?_
    refine lv_istore (lv' := [(5, .int (v3 + (1 : Int32))), (4, .int y0), (0, .ref (ad 369)), (1, .ref (ad r1)), (2, .int v2), (3, .int v3)]) hx hb dX6_laySets_100 hl (by decide) rfl (fun ls hl => ?_)
    exact bX6_laySets_102 (S := S) (r1 := r1) hr1 X hq2 2000 S1 (v2) (v3) (y0) ((v3 + (1 : Int32))) _ _ _ hR hS (lv_sub hl [2, 3, 4, 5, 1, 0] rfl) hf
  · replace hf := ite_f c_7 hf
    refine lv_aload_n hx hb dX6_laySets_71 rfl (lv_at hl 1 rfl) ?_
    refine rg_6_11 X hR iX6_laySets_6 wX6_laySets_32 dX6_laySets_72 ?_
    refine lv_iload_n hx hb dX6_laySets_75 rfl (lv_at hl 3 rfl) ?_
    refine lv_aload_n hx hb dX6_laySets_76 rfl (lv_at hl 1 rfl) ?_
    refine rg_6_11 X hR iX6_laySets_6 wX6_laySets_32 dX6_laySets_77 ?_
    refine lv_iload hx hb dX6_laySets_80 (lv_at hl 0 rfl) ?_
    obtain ⟨h_8, hf⟩ := chk_some hf
    refine ra_int X hR (r := 377) rfl h_8 dX6_laySets_82 ?_
    obtain ⟨h_9, hf⟩ := chk_some hf
    refine rs_int X hR hS (r := 377) rfl h_9 dX6_laySets_83 (fun H locs hR hS => ?_)
    generalize teu S1 377 v2.toNatClampNeg (S1 377 y0.toNatClampNeg) = S2 at hf hR
    replace hf := lt1_e hf
    refine lv_aload_n hx hb dX6_laySets_84 rfl (lv_at hl 1 rfl) ?_
    refine rg_6_12 X hR iX6_laySets_6 wX6_laySets_35 dX6_laySets_85 ?_
    refine lv_iload_n hx hb dX6_laySets_88 rfl (lv_at hl 3 rfl) ?_
    refine lv_aload_n hx hb dX6_laySets_89 rfl (lv_at hl 1 rfl) ?_
    refine rg_6_12 X hR iX6_laySets_6 wX6_laySets_35 dX6_laySets_90 ?_
    refine lv_iload hx hb dX6_laySets_93 (lv_at hl 0 rfl) ?_
    refine ra_int X hR (r := 378) rfl h_8 dX6_laySets_95 ?_
    refine rs_int X hR hS (r := 378) rfl h_9 dX6_laySets_96 (fun H locs hR hS => ?_)
    generalize teu S2 378 v2.toNatClampNeg (S2 378 y0.toNatClampNeg) = S3 at hf hR
    replace hf := lt1_e hf
    refine lv_iload_n hx hb dX6_laySets_97 rfl (lv_at hl 4 rfl) ?_
    refine lv_iconst (v := (1 : Int32)) hx hb dX6_laySets_98 (by decide) ?_
    refine lv_iadd hx hb dX6_laySets_99 ?_
    refine lv_istore (lv' := [(5, .int (v3 + (1 : Int32))), (4, .int y0), (0, .ref (ad 369)), (1, .ref (ad r1)), (2, .int v2), (3, .int v3)]) hx hb dX6_laySets_100 hl (by decide) rfl (fun ls hl => ?_)
    exact bX6_laySets_102 (S := S) (r1 := r1) hr1 X hq2 2000 S3 (v2) (v3) (y0) ((v3 + (1 : Int32))) _ _ _ hR hS (lv_sub hl [2, 3, 4, 5, 1, 0] rfl) hf
set_option maxRecDepth 100000 in
set_option maxHeartbeats 4000000 in
theorem bX6_laySets_45 {p : Program} {l : Launch} {e : Env} {s : State} {m : MethodId} {args : Array Value} {below : List Frame} {meth : Method} {c : Code} {D : va_G} {cy : Nat → ClassId} {ad : Nat → Nat} {ba : Nat} {O : Int64} {S : teS}  {r1 : Nat} {res : teS} (hr1 : teK r1 = true) (X : teC wsX6_laySets RX6 cX6_laySets 10 none D cy ba p s m args meth c) {q2 : teS → Int32 → Option teS} (hq2 : ∀ (S1 : teS) (v2 : Int32) (H : Heap) (locs : List Loc) (ls : Array Slot), teR D cy ad ba O S1 H → va_S (teA ba) s.heap H locs → lv_has ls 10 [(0, .ref (ad 369)), (1, .ref (ad r1)), (2, .int v2)] → q2 S1 v2 = some res → W p l e (headSpec wsX6_laySets rmX6_laySets).room s m args below meth c H locs 0 0 (MQ below (va_Qv (fun (u : teS) => u = res) (fun u t => teR D cy ad ba O u t.heap) (teA ba)) args s 0 0 (teA ba)) (F0 m 2 ls [])) : ∀ (S1 : teS) (v2 : Int32) (v3 : Int32) (H : Heap) (locs : List Loc) (ls : Array Slot), teR D cy ad ba O S1 H → va_S (teA ba) s.heap H locs → lv_has ls 10 [(0, .ref (ad 369)), (1, .ref (ad r1)), (2, .int v2), (3, .int v3)] → fX6_laySets_45 r1 q2 S1 v2 v3 = some res → W p l e (headSpec wsX6_laySets rmX6_laySets).room s m args below meth c H locs 0 0 (MQ below (va_Qv (fun (u : teS) => u = res) (fun u t => teR D cy ad ba O u t.heap) (teA ba)) args s 0 0 (teA ba)) (F0 m 45 ls []) := by
  have hx := X.1
  have hb := X.2.1
  have hown := X.2.2.2.2.1
  intro S1 v2 v3 H locs ls hR hS hl hf
  unfold fX6_laySets_45 at hf
  refine lv_iload_n hx hb dX6_laySets_45 rfl (lv_at hl 3 rfl) ?_
  refine lv_bipush (v := (9 : Int32)) hx hb dX6_laySets_46 (by decide) ?_
  refine lv_icmp_ne (tgt := 55) hx hb dX6_laySets_48 (by decide) (fun c_5 => ?_) (fun c_5 => ?_)
  · replace hf := ite_f c_5 hf
    refine lv_iload_n hx hb dX6_laySets_55 rfl (lv_at hl 2 rfl) ?_
    refine lv_iconst (v := (1 : Int32)) hx hb dX6_laySets_56 (by decide) ?_
    refine lv_iload_n hx hb dX6_laySets_57 rfl (lv_at hl 3 rfl) ?_
    refine lv_ishl hx hb dX6_laySets_58 ?_
    refine lv_iconst (v := (-1 : Int32)) hx hb dX6_laySets_59 (by decide) ?_
    refine lv_ixor hx hb dX6_laySets_60 ?_
    refine lv_iand hx hb dX6_laySets_61 ?_
    exact bX6_laySets_62 (S := S) (r1 := r1) hr1 X hq2 S1 (v2) (v3) ((v2 &&& (((1 : Int32) <<< (v3 &&& 31)) ^^^ (-1 : Int32)))) _ _ _ hR hS (lv_sub hl [0, 1, 2, 3] rfl) hf
  · replace hf := ite_t c_5 hf
    refine lv_iconst (v := (0 : Int32)) hx hb dX6_laySets_51 (by decide) ?_
    refine lv_goto (tgt := 62) hx hb dX6_laySets_52 (by decide) ?_
    exact bX6_laySets_62 (S := S) (r1 := r1) hr1 X hq2 S1 (v2) (v3) ((0 : Int32)) _ _ _ hR hS (lv_sub hl [0, 1, 2, 3] rfl) hf
set_option maxRecDepth 100000 in
set_option maxHeartbeats 4000000 in
theorem bX6_laySets_25 {p : Program} {l : Launch} {e : Env} {s : State} {m : MethodId} {args : Array Value} {below : List Frame} {meth : Method} {c : Code} {D : va_G} {cy : Nat → ClassId} {ad : Nat → Nat} {ba : Nat} {O : Int64} {S : teS}  {r1 : Nat} {res : teS} (hr1 : teK r1 = true) (X : teC wsX6_laySets RX6 cX6_laySets 10 none D cy ba p s m args meth c) {q2 : teS → Int32 → Option teS} (hq2 : ∀ (S1 : teS) (v2 : Int32) (H : Heap) (locs : List Loc) (ls : Array Slot), teR D cy ad ba O S1 H → va_S (teA ba) s.heap H locs → lv_has ls 10 [(0, .ref (ad 369)), (1, .ref (ad r1)), (2, .int v2)] → q2 S1 v2 = some res → W p l e (headSpec wsX6_laySets rmX6_laySets).room s m args below meth c H locs 0 0 (MQ below (va_Qv (fun (u : teS) => u = res) (fun u t => teR D cy ad ba O u t.heap) (teA ba)) args s 0 0 (teA ba)) (F0 m 2 ls [])) : ∀ (n : Nat), ∀ (S1 : teS) (v2 : Int32) (v3 : Int32) (H : Heap) (locs : List Loc) (ls : Array Slot), teR D cy ad ba O S1 H → va_S (teA ba) s.heap H locs → lv_has ls 10 [(0, .ref (ad 369)), (1, .ref (ad r1)), (2, .int v2), (3, .int v3)] → fX6_laySets_25 r1 q2 n S1 v2 v3 = some res → W p l e (headSpec wsX6_laySets rmX6_laySets).room s m args below meth c H locs 0 0 (MQ below (va_Qv (fun (u : teS) => u = res) (fun u t => teR D cy ad ba O u t.heap) (teA ba)) args s 0 0 (teA ba)) (F0 m 25 ls []) := by
  have hx := X.1
  have hb := X.2.1
  have hown := X.2.2.2.2.1
  intro n
  induction n with
  | zero =>
    intro S1 v2 v3 H locs ls hR hS hl hf
    exact nomatch hf
  | succ n ih =>
    intro S1 v2 v3 H locs ls hR hS hl hf
    unfold fX6_laySets_25 at hf
    refine lv_iload_n hx hb dX6_laySets_25 rfl (lv_at hl 3 rfl) ?_
    refine lv_bipush (v := (9 : Int32)) hx hb dX6_laySets_26 (by decide) ?_
    refine lv_icmp_ge (tgt := 45) hx hb dX6_laySets_28 (by decide) (fun c_3 => ?_) (fun c_3 => ?_)
    · replace hf := ite_t c_3 hf
      exact bX6_laySets_45 (S := S) (r1 := r1) hr1 X hq2 S1 (v2) (v3) _ _ _ hR hS (lv_sub hl [0, 1, 2, 3] rfl) hf
    · replace hf := ite_f c_3 hf
      refine lv_iload_n hx hb dX6_laySets_31 rfl (lv_at hl 2 rfl) ?_
      refine lv_iload_n hx hb dX6_laySets_32 rfl (lv_at hl 3 rfl) ?_
      refine lv_ishr hx hb dX6_laySets_33 ?_
      refine lv_iconst (v := (1 : Int32)) hx hb dX6_laySets_34 (by decide) ?_
      refine lv_iand hx hb dX6_laySets_35 ?_
      refine lv_if_ne (tgt := 45) hx hb dX6_laySets_36 (by decide) (fun c_4 => ?_) (fun c_4 => ?_)
      · replace hf := ite_f c_4 hf
        exact bX6_laySets_45 (S := S) (r1 := r1) hr1 X hq2 S1 (v2) (v3) _ _ _ hR hS (lv_sub hl [0, 1, 2, 3] rfl) hf
      · replace hf := ite_t c_4 hf
        refine lv_iinc (v := (v3 + (1 : Int32))) (lv' := [(3, .int (v3 + (1 : Int32))), (0, .ref (ad 369)), (1, .ref (ad r1)), (2, .int v2)]) hx hb dX6_laySets_39 hl (k := 3) rfl rfl (by decide) rfl (fun ls hl => ?_)
        refine lv_goto (tgt := 25) hx hb dX6_laySets_42 (by decide) ?_
        exact ih S1 (v2) ((v3 + (1 : Int32))) _ _ _ hR hS (lv_sub hl [1, 2, 3, 0] rfl) hf
set_option maxRecDepth 100000 in
set_option maxHeartbeats 4000000 in
theorem bX6_laySets_2 {p : Program} {l : Launch} {e : Env} {s : State} {m : MethodId} {args : Array Value} {below : List Frame} {meth : Method} {c : Code} {D : va_G} {cy : Nat → ClassId} {ad : Nat → Nat} {ba : Nat} {O : Int64} {S : teS}  {r1 : Nat} {res : teS} (hr1 : teK r1 = true) (X : teC wsX6_laySets RX6 cX6_laySets 10 none D cy ba p s m args meth c) : ∀ (n : Nat), ∀ (S1 : teS) (v2 : Int32) (H : Heap) (locs : List Loc) (ls : Array Slot), teR D cy ad ba O S1 H → va_S (teA ba) s.heap H locs → lv_has ls 10 [(0, .ref (ad 369)), (1, .ref (ad r1)), (2, .int v2)] → fX6_laySets_2 r1 n S1 v2 = some res → W p l e (headSpec wsX6_laySets rmX6_laySets).room s m args below meth c H locs 0 0 (MQ below (va_Qv (fun (u : teS) => u = res) (fun u t => teR D cy ad ba O u t.heap) (teA ba)) args s 0 0 (teA ba)) (F0 m 2 ls []) := by
  have hx := X.1
  have hb := X.2.1
  have hown := X.2.2.2.2.1
  intro n
  induction n with
  | zero =>
    intro S1 v2 H locs ls hR hS hl hf
    exact nomatch hf
  | succ n ih =>
    intro S1 v2 H locs ls hR hS hl hf
    unfold fX6_laySets_2 at hf
    refine lv_iload_n hx hb dX6_laySets_2 rfl (lv_at hl 2 rfl) ?_
    refine lv_sipush (v := (512 : Int32)) hx hb dX6_laySets_3 (by decide) ?_
    refine lv_icmp_ge (tgt := 266) hx hb dX6_laySets_6 (by decide) (fun c_1 => ?_) (fun c_1 => ?_)
    · replace hf := ite_t c_1 hf
      exact eV X hR hS (Option.some.inj hf) dX6_laySets_266
    · replace hf := ite_f c_1 hf
      refine lv_aload_n hx hb dX6_laySets_9 rfl (lv_at hl 0 rfl) ?_
      refine rg_6_11 X hR iX6_laySets_6 wX6_laySets_32 dX6_laySets_10 ?_
      refine lv_iload_n hx hb dX6_laySets_13 rfl (lv_at hl 2 rfl) ?_
      refine lv_iconst (v := (0 : Int32)) hx hb dX6_laySets_14 (by decide) ?_
      obtain ⟨h_2, hf⟩ := chk_some hf
      refine rs_int X hR hS (r := 377) rfl h_2 dX6_laySets_15 (fun H locs hR hS => ?_)
      generalize teu S1 377 v2.toNatClampNeg (0 : Int32) = S2 at hf hR
      replace hf := lt1_e hf
      refine lv_aload_n hx hb dX6_laySets_16 rfl (lv_at hl 0 rfl) ?_
      refine rg_6_12 X hR iX6_laySets_6 wX6_laySets_35 dX6_laySets_17 ?_
      refine lv_iload_n hx hb dX6_laySets_20 rfl (lv_at hl 2 rfl) ?_
      refine lv_iconst (v := (0 : Int32)) hx hb dX6_laySets_21 (by decide) ?_
      refine rs_int X hR hS (r := 378) rfl h_2 dX6_laySets_22 (fun H locs hR hS => ?_)
      generalize teu S2 378 v2.toNatClampNeg (0 : Int32) = S3 at hf hR
      replace hf := lt1_e hf
      refine lv_iconst (v := (0 : Int32)) hx hb dX6_laySets_23 (by decide) ?_
      refine lv_istore_n (lv' := [(3, .int (0 : Int32)), (0, .ref (ad 369)), (1, .ref (ad r1)), (2, .int v2)]) hx hb dX6_laySets_24 rfl hl (by decide) rfl (fun ls hl => ?_)
      exact bX6_laySets_25 (S := S) (r1 := r1) hr1 X ih 2000 S3 (v2) ((0 : Int32)) _ _ _ hR hS (lv_sub hl [1, 2, 3, 0] rfl) hf
set_option maxRecDepth 100000 in
set_option maxHeartbeats 4000000 in
theorem bX6_laySets_0 {p : Program} {l : Launch} {e : Env} {s : State} {m : MethodId} {args : Array Value} {below : List Frame} {meth : Method} {c : Code} {D : va_G} {cy : Nat → ClassId} {ad : Nat → Nat} {ba : Nat} {O : Int64} {S : teS}  {r1 : Nat} {res : teS} (hr1 : teK r1 = true) (X : teC wsX6_laySets RX6 cX6_laySets 10 none D cy ba p s m args meth c) (H : Heap) (locs : List Loc) (ls : Array Slot) (hR : teR D cy ad ba O S H) (hS : va_S (teA ba) s.heap H locs) (hl : lv_has ls 10 [(0, .ref (ad 369)), (1, .ref (ad r1))]) (hf : fX6_laySets r1 S = some res) : W p l e (headSpec wsX6_laySets rmX6_laySets).room s m args below meth c H locs 0 0 (MQ below (va_Qv (fun (u : teS) => u = res) (fun u t => teR D cy ad ba O u t.heap) (teA ba)) args s 0 0 (teA ba)) (F0 m 0 ls []) := by
  have hx := X.1
  have hb := X.2.1
  have hown := X.2.2.2.2.1
  unfold fX6_laySets at hf
  refine lv_iconst (v := (0 : Int32)) hx hb dX6_laySets_0 (by decide) ?_
  refine lv_istore_n (lv' := [(2, .int (0 : Int32)), (0, .ref (ad 369)), (1, .ref (ad r1))]) hx hb dX6_laySets_1 rfl hl (by decide) rfl (fun ls hl => ?_)
  exact bX6_laySets_2 (S := S) (r1 := r1) hr1 X 2000 S ((0 : Int32)) _ _ _ hR hS (lv_sub hl [1, 2, 0] rfl) hf
theorem zcX6_laySets (l : Launch) (D : va_G) (cy : Nat → ClassId) (ad : Nat → Nat) (ba : Nat) (O : Int64) (S : teS) (r1 : Nat) (hr1 : teK r1 = true) (res : teS) (hf : fX6_laySets r1 S = some res) : cV l yX6_laySets wsX6_laySets rmX6_laySets D cy ad ba O S [.ref (ad 369), .ref (ad r1)] res :=
  te_of (by decide +kernel) rfl (Nat.le_of_ble_eq_true rfl) (fun p e s m below meth c ls X hR hS hl => bX6_laySets_0 (S := S) (r1 := r1) hr1 X _ _ _ hR hS hl hf)
abbrev rmX6_append : Room := { frames := 1, cells := 0, slots := 0, locals := 25 }
theorem kdX6_append : yX6_append.cls = RX6 ∧ yX6_append.cls ≠ "java/lang/invoke/MethodHandle" ∧ yX6_append.cls ≠ "java/lang/invoke/VarHandle" ∧ (parseMethodDescriptor yX6_append.desc).map (fun d => d.parameters.length) = some 1 := by decide +kernel
theorem wX6_append_106 : Cond.constantLong RX6 106 (255) ∈ wsX6_append := by decide +kernel
theorem wX6_append_108 : Cond.fieldLink RX6 108 "TandemExchangeModel" "textSize" "I" ∈ wsX6_append := by decide +kernel
theorem iX6_append_6 : ∀ w ∈ wsX60, w ∈ wsX6_append := fun _ h => List.mem_cons_of_mem _ (List.mem_append_right _ h)
theorem wX6_append_7 : Cond.fieldLink RX6 7 "TandemExchangeModel" "text" "[I" ∈ wsX6_append := by decide +kernel
set_option maxRecDepth 100000 in
set_option maxHeartbeats 4000000 in
theorem bX6_append_31 {p : Program} {l : Launch} {e : Env} {s : State} {m : MethodId} {args : Array Value} {below : List Frame} {meth : Method} {c : Code} {D : va_G} {cy : Nat → ClassId} {ad : Nat → Nat} {ba : Nat} {O : Int64} {S : teS}  {x1 : Int32} {res : (Int32 × teS)} (X : teC wsX6_append RX6 cX6_append 2 (some .int) D cy ba p s m args meth c) : ∀ (S1 : teS) (y0 : Int32) (H : Heap) (locs : List Loc) (ls : Array Slot), teR D cy ad ba O S1 H → va_S (teA ba) s.heap H locs → lv_has ls 2 [(0, .ref (ad 369)), (1, .int x1)] → fX6_append_31 x1 S1 y0 = some res → W p l e (headSpec wsX6_append rmX6_append).room s m args below meth c H locs 0 0 (MQ below (va_Qi (fun a (u : teS) => a = res.1 ∧ u = res.2) (fun u t => teR D cy ad ba O u t.heap) (teA ba)) args s 0 0 (teA ba)) (F0 m 31 ls [.int y0, .ref (ad 369)]) := by
  have hx := X.1
  have hb := X.2.1
  have hown := X.2.2.2.2.1
  intro S1 y0 H locs ls hR hS hl hf
  unfold fX6_append_31 at hf
  obtain ⟨r_5, S2, hq_6, hf⟩ := bd2_some hf
  refine kVi (id := 369) (As := [.int y0]) (rest := []) X hR hS (zcX6_refused l D cy ad ba O S1 y0 _ _ hq_6) (cwV 1 X.2.2.2.2.2.1 gX6_append_X6_refused rfl rfl rfl kdX6_refused ⟨(Nat.le_of_ble_eq_true rfl), (Nat.le_of_ble_eq_true rfl)⟩) (by decide) rfl rfl rfl rfl hl.1 (Nat.le_of_ble_eq_true rfl) ⟨(Nat.le_of_ble_eq_true rfl), (Nat.le_of_ble_eq_true rfl)⟩ dX6_append_31 (fun H locs hR hS => ?_)
  refine lv_if_eq (tgt := 39) hx hb dX6_append_34 (by decide) (fun c_7 => ?_) (fun c_7 => ?_)
  · replace hf := ite_t c_7 hf
    refine lv_aload_n hx hb dX6_append_39 rfl (lv_at hl 0 rfl) ?_
    refine rg_6_1 X hR iX6_append_6 wX6_append_7 dX6_append_40 ?_
    refine lv_aload_n hx hb dX6_append_43 rfl (lv_at hl 0 rfl) ?_
    refine rg_6_2 X hR iX6_append_6 wX6_append_108 dX6_append_44 ?_
    refine lv_iload_n hx hb dX6_append_47 rfl (lv_at hl 1 rfl) ?_
    obtain ⟨h_8, hf⟩ := chk_some hf
    refine rs_int X hR hS (r := 370) rfl h_8 dX6_append_48 (fun H locs hR hS => ?_)
    generalize teu S2 370 (S2 369 1).toNatClampNeg x1 = S3 at hf hR
    replace hf := lt1_e hf
    refine lv_aload_n hx hb dX6_append_49 rfl (lv_at hl 0 rfl) ?_
    refine lv_dup hx hb dX6_append_50 rfl ?_
    refine rg_6_2 X hR iX6_append_6 wX6_append_108 dX6_append_51 ?_
    refine lv_iconst (v := (1 : Int32)) hx hb dX6_append_54 (by decide) ?_
    refine lv_iadd hx hb dX6_append_55 ?_
    refine rp_6_2 X hR hS iX6_append_6 wX6_append_108 dX6_append_56 (fun H locs hR hS => ?_)
    generalize teu S3 369 1 ((S3 369 1) + (1 : Int32)) = S4 at hf hR
    replace hf := lt1_e hf
    refine lv_aload_n hx hb dX6_append_59 rfl (lv_at hl 0 rfl) ?_
    refine rg_6_2 X hR iX6_append_6 wX6_append_108 dX6_append_60 ?_
    exact eI X hR hS (congrArg Prod.fst (Option.some.inj hf)) (congrArg Prod.snd (Option.some.inj hf)) dX6_append_63
  · replace hf := ite_f c_7 hf
    refine lv_iconst (v := (0 : Int32)) hx hb dX6_append_37 (by decide) ?_
    exact eI X hR hS (congrArg Prod.fst (Option.some.inj hf)) (congrArg Prod.snd (Option.some.inj hf)) dX6_append_38
set_option maxRecDepth 100000 in
set_option maxHeartbeats 4000000 in
theorem bX6_append_0 {p : Program} {l : Launch} {e : Env} {s : State} {m : MethodId} {args : Array Value} {below : List Frame} {meth : Method} {c : Code} {D : va_G} {cy : Nat → ClassId} {ad : Nat → Nat} {ba : Nat} {O : Int64} {S : teS}  {x1 : Int32} {res : (Int32 × teS)} (X : teC wsX6_append RX6 cX6_append 2 (some .int) D cy ba p s m args meth c) (H : Heap) (locs : List Loc) (ls : Array Slot) (hR : teR D cy ad ba O S H) (hS : va_S (teA ba) s.heap H locs) (hl : lv_has ls 2 [(0, .ref (ad 369)), (1, .int x1)]) (hf : fX6_append x1 S = some res) : W p l e (headSpec wsX6_append rmX6_append).room s m args below meth c H locs 0 0 (MQ below (va_Qi (fun a (u : teS) => a = res.1 ∧ u = res.2) (fun u t => teR D cy ad ba O u t.heap) (teA ba)) args s 0 0 (teA ba)) (F0 m 0 ls []) := by
  have hx := X.1
  have hb := X.2.1
  have hown := X.2.2.2.2.1
  unfold fX6_append at hf
  refine lv_aload_n hx hb dX6_append_0 rfl (lv_at hl 0 rfl) ?_
  refine lv_iload_n hx hb dX6_append_1 rfl (lv_at hl 1 rfl) ?_
  refine lv_i2l hx hb dX6_append_2 rfl ?_
  refine lv_lconst (v := (0 : Int64)) hx hb dX6_append_3 (by decide) ?_
  refine lv_ldc2 (v := (255 : Int64)) hx hb hown (X.2.2.2.2.2.1 _ wX6_append_106) dX6_append_4 ?_
  obtain ⟨r_1, hq_2, hf⟩ := bd1_some hf
  refine kSi (As := [.long (x1).toInt64, .long (0 : Int64), .long (255 : Int64)]) (rest := [.ref (ad 369)]) X hR hS (zcX6_in l D cy ad ba O S ((x1).toInt64) (0 : Int64) (255 : Int64) _ hq_2) (va_cwS 3 X.2.2.2.2.2.1 gX6_append_X6_in rfl rfl rfl kdX6_in.2 ⟨(Nat.le_of_ble_eq_true rfl), (Nat.le_of_ble_eq_true rfl)⟩)  rfl rfl hl.1 (Nat.le_of_ble_eq_true rfl) ⟨(Nat.le_of_ble_eq_true rfl), (Nat.le_of_ble_eq_true rfl)⟩ dX6_append_7 (fun H locs hR hS => ?_)
  refine lv_if_ne (tgt := 17) hx hb dX6_append_10 (by decide) (fun c_3 => ?_) (fun c_3 => ?_)
  · replace hf := ite_f c_3 hf
    refine lv_aload_n hx hb dX6_append_17 rfl (lv_at hl 0 rfl) ?_
    refine rg_6_2 X hR iX6_append_6 wX6_append_108 dX6_append_18 ?_
    refine lv_bipush (v := (90 : Int32)) hx hb dX6_append_21 (by decide) ?_
    refine lv_icmp_ne (tgt := 30) hx hb dX6_append_23 (by decide) (fun c_4 => ?_) (fun c_4 => ?_)
    · replace hf := ite_f c_4 hf
      refine lv_iconst (v := (0 : Int32)) hx hb dX6_append_30 (by decide) ?_
      exact bX6_append_31 (S := S) (x1 := x1) X S ((0 : Int32)) _ _ _ hR hS (lv_sub hl [0, 1] rfl) hf
    · replace hf := ite_t c_4 hf
      refine lv_iconst (v := (2 : Int32)) hx hb dX6_append_26 (by decide) ?_
      refine lv_goto (tgt := 31) hx hb dX6_append_27 (by decide) ?_
      exact bX6_append_31 (S := S) (x1 := x1) X S ((2 : Int32)) _ _ _ hR hS (lv_sub hl [0, 1] rfl) hf
  · replace hf := ite_t c_3 hf
    refine lv_iconst (v := (1 : Int32)) hx hb dX6_append_13 (by decide) ?_
    refine lv_goto (tgt := 31) hx hb dX6_append_14 (by decide) ?_
    exact bX6_append_31 (S := S) (x1 := x1) X S ((1 : Int32)) _ _ _ hR hS (lv_sub hl [0, 1] rfl) hf
theorem zcX6_append (l : Launch) (D : va_G) (cy : Nat → ClassId) (ad : Nat → Nat) (ba : Nat) (O : Int64) (S : teS) (x1 : Int32) (r : Int32) (S1 : teS) (hf : fX6_append x1 S = some (r, S1)) : cI l yX6_append wsX6_append rmX6_append D cy ad ba O S [.ref (ad 369), .int x1] r S1 :=
  te_of (by decide) rfl (Nat.le_of_ble_eq_true rfl) (fun p e s m below meth c ls X hR hS hl => bX6_append_0 (res := (r, S1)) (S := S) (x1 := x1) X _ _ _ hR hS hl hf)
abbrev rmX6_clearText : Room := { frames := 0, cells := 0, slots := 0, locals := 0 }
theorem kdX6_clearText : yX6_clearText.cls = RX6 ∧ yX6_clearText.cls ≠ "java/lang/invoke/MethodHandle" ∧ yX6_clearText.cls ≠ "java/lang/invoke/VarHandle" ∧ (parseMethodDescriptor yX6_clearText.desc).map (fun d => d.parameters.length) = some 0 := by decide +kernel
theorem wX6_clearText_38 : Cond.fieldLink RX6 38 "TandemExchangeModel" "refusal" "I" ∈ wsX6_clearText := by decide +kernel
theorem iX6_clearText_6 : ∀ w ∈ wsX60, w ∈ wsX6_clearText := fun _ h => List.mem_cons_of_mem _ (List.mem_append_right _ h)
theorem wX6_clearText_108 : Cond.fieldLink RX6 108 "TandemExchangeModel" "textSize" "I" ∈ wsX6_clearText := by decide +kernel
set_option maxRecDepth 100000 in
set_option maxHeartbeats 4000000 in
theorem bX6_clearText_0 {p : Program} {l : Launch} {e : Env} {s : State} {m : MethodId} {args : Array Value} {below : List Frame} {meth : Method} {c : Code} {D : va_G} {cy : Nat → ClassId} {ad : Nat → Nat} {ba : Nat} {O : Int64} {S : teS}  {res : (Int32 × teS)} (X : teC wsX6_clearText RX6 cX6_clearText 2 (some .int) D cy ba p s m args meth c) (H : Heap) (locs : List Loc) (ls : Array Slot) (hR : teR D cy ad ba O S H) (hS : va_S (teA ba) s.heap H locs) (hl : lv_has ls 2 [(0, .ref (ad 369))]) (hf : fX6_clearText S = some res) : W p l e (headSpec wsX6_clearText rmX6_clearText).room s m args below meth c H locs 0 0 (MQ below (va_Qi (fun a (u : teS) => a = res.1 ∧ u = res.2) (fun u t => teR D cy ad ba O u t.heap) (teA ba)) args s 0 0 (teA ba)) (F0 m 0 ls []) := by
  have hx := X.1
  have hb := X.2.1
  have hown := X.2.2.2.2.1
  unfold fX6_clearText at hf
  refine lv_aload_n hx hb dX6_clearText_0 rfl (lv_at hl 0 rfl) ?_
  refine lv_iconst (v := (0 : Int32)) hx hb dX6_clearText_1 (by decide) ?_
  refine rp_6_0 X hR hS iX6_clearText_6 wX6_clearText_38 dX6_clearText_2 (fun H locs hR hS => ?_)
  generalize teu S 369 0 (0 : Int32) = S1 at hf hR
  replace hf := lt1_e hf
  refine lv_aload_n hx hb dX6_clearText_5 rfl (lv_at hl 0 rfl) ?_
  refine rg_6_2 X hR iX6_clearText_6 wX6_clearText_108 dX6_clearText_6 ?_
  refine lv_istore_n (lv' := [(1, .int (S1 369 1)), (0, .ref (ad 369))]) hx hb dX6_clearText_9 rfl hl (by decide) rfl (fun ls hl => ?_)
  refine lv_aload_n hx hb dX6_clearText_10 rfl (lv_at hl 1 rfl) ?_
  refine lv_iconst (v := (0 : Int32)) hx hb dX6_clearText_11 (by decide) ?_
  refine rp_6_2 X hR hS iX6_clearText_6 wX6_clearText_108 dX6_clearText_12 (fun H locs hR hS => ?_)
  generalize teu S1 369 1 (0 : Int32) = S2 at hf hR
  replace hf := lt1_e hf
  refine lv_iload_n hx hb dX6_clearText_15 rfl (lv_at hl 0 rfl) ?_
  exact eI X hR hS (congrArg Prod.fst (Option.some.inj hf)) (congrArg Prod.snd (Option.some.inj hf)) dX6_clearText_16
theorem zcX6_clearText (l : Launch) (D : va_G) (cy : Nat → ClassId) (ad : Nat → Nat) (ba : Nat) (O : Int64) (S : teS) (r : Int32) (S1 : teS) (hf : fX6_clearText S = some (r, S1)) : cI l yX6_clearText wsX6_clearText rmX6_clearText D cy ad ba O S [.ref (ad 369)] r S1 :=
  te_of (by decide) rfl (Nat.le_of_ble_eq_true rfl) (fun p e s m below meth c ls X hR hS hl => bX6_clearText_0 (res := (r, S1)) (S := S)  X _ _ _ hR hS hl hf)
abbrev rmX6_eat : Room := { frames := 0, cells := 0, slots := 0, locals := 0 }
theorem kdX6_eat : yX6_eat.cls = RX6 ∧ yX6_eat.cls ≠ "java/lang/invoke/MethodHandle" ∧ yX6_eat.cls ≠ "java/lang/invoke/VarHandle" ∧ (parseMethodDescriptor yX6_eat.desc).map (fun d => d.parameters.length) = some 1 := by decide +kernel
theorem wX6_eat_115 : Cond.fieldLink RX6 115 "TandemExchangeModel" "spot" "I" ∈ wsX6_eat := by decide +kernel
theorem iX6_eat_6 : ∀ w ∈ wsX60, w ∈ wsX6_eat := fun _ h => List.mem_cons_of_mem _ (List.mem_append_right _ h)
theorem wX6_eat_108 : Cond.fieldLink RX6 108 "TandemExchangeModel" "textSize" "I" ∈ wsX6_eat := by decide +kernel
theorem wX6_eat_7 : Cond.fieldLink RX6 7 "TandemExchangeModel" "text" "[I" ∈ wsX6_eat := by decide +kernel
set_option maxRecDepth 100000 in
set_option maxHeartbeats 4000000 in
theorem bX6_eat_29 {p : Program} {l : Launch} {e : Env} {s : State} {m : MethodId} {args : Array Value} {below : List Frame} {meth : Method} {c : Code} {D : va_G} {cy : Nat → ClassId} {ad : Nat → Nat} {ba : Nat} {O : Int64} {S : teS}  {x1 : Int32} {res : (Int32 × teS)} (X : teC wsX6_eat RX6 cX6_eat 3 (some .boolean) D cy ba p s m args meth c) : ∀ (S1 : teS) (y0 : Int32) (H : Heap) (locs : List Loc) (ls : Array Slot), teR D cy ad ba O S1 H → va_S (teA ba) s.heap H locs → lv_has ls 3 [(0, .ref (ad 369))] → fX6_eat_29 x1 S1 y0 = some res → W p l e (headSpec wsX6_eat rmX6_eat).room s m args below meth c H locs 0 0 (MQ below (va_Qi (fun a (u : teS) => a = res.1 ∧ u = res.2) (fun u t => teR D cy ad ba O u t.heap) (teA ba)) args s 0 0 (teA ba)) (F0 m 29 ls [.int y0]) := by
  have hx := X.1
  have hb := X.2.1
  have hown := X.2.2.2.2.1
  intro S1 y0 H locs ls hR hS hl hf
  unfold fX6_eat_29 at hf
  refine lv_istore_n (lv' := [(2, .int y0), (0, .ref (ad 369))]) hx hb dX6_eat_29 rfl hl (by decide) rfl (fun ls hl => ?_)
  refine lv_aload_n hx hb dX6_eat_30 rfl (lv_at hl 1 rfl) ?_
  refine lv_dup hx hb dX6_eat_31 rfl ?_
  refine rg_6_3 X hR iX6_eat_6 wX6_eat_115 dX6_eat_32 ?_
  refine lv_iload_n hx hb dX6_eat_35 rfl (lv_at hl 0 rfl) ?_
  refine lv_if_eq (tgt := 43) hx hb dX6_eat_36 (by decide) (fun c_4 => ?_) (fun c_4 => ?_)
  · replace hf := ite_t c_4 hf
    refine lv_iconst (v := (0 : Int32)) hx hb dX6_eat_43 (by decide) ?_
    refine lv_iadd hx hb dX6_eat_44 ?_
    refine rp_6_3 X hR hS iX6_eat_6 wX6_eat_115 dX6_eat_45 (fun H locs hR hS => ?_)
    generalize teu S1 369 2 ((S1 369 2) + (0 : Int32)) = S2 at hf hR
    replace hf := lt1_e hf
    refine lv_iload_n hx hb dX6_eat_48 rfl (lv_at hl 0 rfl) ?_
    obtain ⟨h_5, hf⟩ := chk_some hf
    exact eZ X hR hS (of_decide_eq_true h_5) (congrArg Prod.fst (Option.some.inj hf)) (congrArg Prod.snd (Option.some.inj hf)) dX6_eat_49
  · replace hf := ite_f c_4 hf
    refine lv_iconst (v := (1 : Int32)) hx hb dX6_eat_39 (by decide) ?_
    refine lv_goto (tgt := 44) hx hb dX6_eat_40 (by decide) ?_
    refine lv_iadd hx hb dX6_eat_44 ?_
    refine rp_6_3 X hR hS iX6_eat_6 wX6_eat_115 dX6_eat_45 (fun H locs hR hS => ?_)
    generalize teu S1 369 2 ((S1 369 2) + (1 : Int32)) = S3 at hf hR
    replace hf := lt1_e hf
    refine lv_iload_n hx hb dX6_eat_48 rfl (lv_at hl 0 rfl) ?_
    obtain ⟨h_6, hf⟩ := chk_some hf
    exact eZ X hR hS (of_decide_eq_true h_6) (congrArg Prod.fst (Option.some.inj hf)) (congrArg Prod.snd (Option.some.inj hf)) dX6_eat_49
set_option maxRecDepth 100000 in
set_option maxHeartbeats 4000000 in
theorem bX6_eat_0 {p : Program} {l : Launch} {e : Env} {s : State} {m : MethodId} {args : Array Value} {below : List Frame} {meth : Method} {c : Code} {D : va_G} {cy : Nat → ClassId} {ad : Nat → Nat} {ba : Nat} {O : Int64} {S : teS}  {x1 : Int32} {res : (Int32 × teS)} (X : teC wsX6_eat RX6 cX6_eat 3 (some .boolean) D cy ba p s m args meth c) (H : Heap) (locs : List Loc) (ls : Array Slot) (hR : teR D cy ad ba O S H) (hS : va_S (teA ba) s.heap H locs) (hl : lv_has ls 3 [(0, .ref (ad 369)), (1, .int x1)]) (hf : fX6_eat x1 S = some res) : W p l e (headSpec wsX6_eat rmX6_eat).room s m args below meth c H locs 0 0 (MQ below (va_Qi (fun a (u : teS) => a = res.1 ∧ u = res.2) (fun u t => teR D cy ad ba O u t.heap) (teA ba)) args s 0 0 (teA ba)) (F0 m 0 ls []) := by
  have hx := X.1
  have hb := X.2.1
  have hown := X.2.2.2.2.1
  unfold fX6_eat at hf
  refine lv_aload_n hx hb dX6_eat_0 rfl (lv_at hl 0 rfl) ?_
  refine rg_6_3 X hR iX6_eat_6 wX6_eat_115 dX6_eat_1 ?_
  refine lv_aload_n hx hb dX6_eat_4 rfl (lv_at hl 0 rfl) ?_
  refine rg_6_2 X hR iX6_eat_6 wX6_eat_108 dX6_eat_5 ?_
  refine lv_icmp_ge (tgt := 28) hx hb dX6_eat_8 (by decide) (fun c_1 => ?_) (fun c_1 => ?_)
  · replace hf := ite_t c_1 hf
    refine lv_iconst (v := (0 : Int32)) hx hb dX6_eat_28 (by decide) ?_
    exact bX6_eat_29 (S := S) (x1 := x1) X S ((0 : Int32)) _ _ _ hR hS (lv_sub hl [0] rfl) hf
  · replace hf := ite_f c_1 hf
    refine lv_aload_n hx hb dX6_eat_11 rfl (lv_at hl 0 rfl) ?_
    refine rg_6_1 X hR iX6_eat_6 wX6_eat_7 dX6_eat_12 ?_
    refine lv_aload_n hx hb dX6_eat_15 rfl (lv_at hl 0 rfl) ?_
    refine rg_6_3 X hR iX6_eat_6 wX6_eat_115 dX6_eat_16 ?_
    obtain ⟨h_2, hf⟩ := chk_some hf
    refine ra_int X hR (r := 370) rfl h_2 dX6_eat_19 ?_
    refine lv_iload_n hx hb dX6_eat_20 rfl (lv_at hl 1 rfl) ?_
    refine lv_icmp_ne (tgt := 28) hx hb dX6_eat_21 (by decide) (fun c_3 => ?_) (fun c_3 => ?_)
    · replace hf := ite_f c_3 hf
      refine lv_iconst (v := (0 : Int32)) hx hb dX6_eat_28 (by decide) ?_
      exact bX6_eat_29 (S := S) (x1 := x1) X S ((0 : Int32)) _ _ _ hR hS (lv_sub hl [0] rfl) hf
    · replace hf := ite_t c_3 hf
      refine lv_iconst (v := (1 : Int32)) hx hb dX6_eat_24 (by decide) ?_
      refine lv_goto (tgt := 29) hx hb dX6_eat_25 (by decide) ?_
      exact bX6_eat_29 (S := S) (x1 := x1) X S ((1 : Int32)) _ _ _ hR hS (lv_sub hl [0] rfl) hf
theorem zcX6_eat (l : Launch) (D : va_G) (cy : Nat → ClassId) (ad : Nat → Nat) (ba : Nat) (O : Int64) (S : teS) (x1 : Int32) (r : Int32) (S1 : teS) (hf : fX6_eat x1 S = some (r, S1)) : cI l yX6_eat wsX6_eat rmX6_eat D cy ad ba O S [.ref (ad 369), .int x1] r S1 :=
  te_of (by decide) rfl (Nat.le_of_ble_eq_true rfl) (fun p e s m below meth c ls X hR hS hl => bX6_eat_0 (res := (r, S1)) (S := S) (x1 := x1) X _ _ _ hR hS hl hf)
abbrev rmX6_digit : Room := { frames := 1, cells := 0, slots := 0, locals := 25 }
theorem kdX6_digit : yX6_digit.cls = RX6 ∧ yX6_digit.cls ≠ "java/lang/invoke/MethodHandle" ∧ yX6_digit.cls ≠ "java/lang/invoke/VarHandle" ∧ (parseMethodDescriptor yX6_digit.desc).map (fun d => d.parameters.length) = some 1 := by decide +kernel
theorem wX6_digit_115 : Cond.fieldLink RX6 115 "TandemExchangeModel" "spot" "I" ∈ wsX6_digit := by decide +kernel
theorem iX6_digit_6 : ∀ w ∈ wsX60, w ∈ wsX6_digit := fun _ h => List.mem_cons_of_mem _ (List.mem_append_right _ h)
theorem wX6_digit_108 : Cond.fieldLink RX6 108 "TandemExchangeModel" "textSize" "I" ∈ wsX6_digit := by decide +kernel
theorem wX6_digit_7 : Cond.fieldLink RX6 7 "TandemExchangeModel" "text" "[I" ∈ wsX6_digit := by decide +kernel
set_option maxRecDepth 100000 in
set_option maxHeartbeats 4000000 in
theorem bX6_digit_29 {p : Program} {l : Launch} {e : Env} {s : State} {m : MethodId} {args : Array Value} {below : List Frame} {meth : Method} {c : Code} {D : va_G} {cy : Nat → ClassId} {ad : Nat → Nat} {ba : Nat} {O : Int64} {S : teS}  {x1 : Int32} {res : (Int32 × teS)} (X : teC wsX6_digit RX6 cX6_digit 4 (some .int) D cy ba p s m args meth c) : ∀ (S1 : teS) (y0 : Int32) (H : Heap) (locs : List Loc) (ls : Array Slot), teR D cy ad ba O S1 H → va_S (teA ba) s.heap H locs → lv_has ls 4 [(0, .ref (ad 369)), (1, .int x1)] → fX6_digit_29 x1 S1 y0 = some res → W p l e (headSpec wsX6_digit rmX6_digit).room s m args below meth c H locs 0 0 (MQ below (va_Qi (fun a (u : teS) => a = res.1 ∧ u = res.2) (fun u t => teR D cy ad ba O u t.heap) (teA ba)) args s 0 0 (teA ba)) (F0 m 29 ls [.int y0]) := by
  have hx := X.1
  have hb := X.2.1
  have hown := X.2.2.2.2.1
  intro S1 y0 H locs ls hR hS hl hf
  unfold fX6_digit_29 at hf
  refine lv_istore_n (lv' := [(2, .int y0), (0, .ref (ad 369)), (1, .int x1)]) hx hb dX6_digit_29 rfl hl (by decide) rfl (fun ls hl => ?_)
  refine lv_iload_n hx hb dX6_digit_30 rfl (lv_at hl 0 rfl) ?_
  refine lv_i2l hx hb dX6_digit_31 rfl ?_
  refine lv_lconst (v := (0 : Int64)) hx hb dX6_digit_32 (by decide) ?_
  refine lv_iload_n hx hb dX6_digit_33 rfl (lv_at hl 2 rfl) ?_
  refine lv_i2l hx hb dX6_digit_34 rfl ?_
  obtain ⟨r_3, hq_4, hf⟩ := bd1_some hf
  refine kSi (As := [.long (y0).toInt64, .long (0 : Int64), .long (x1).toInt64]) (rest := []) X hR hS (zcX6_in l D cy ad ba O S1 ((y0).toInt64) (0 : Int64) ((x1).toInt64) _ hq_4) (va_cwS 3 X.2.2.2.2.2.1 gX6_digit_X6_in rfl rfl rfl kdX6_in.2 ⟨(Nat.le_of_ble_eq_true rfl), (Nat.le_of_ble_eq_true rfl)⟩)  rfl rfl hl.1 (Nat.le_of_ble_eq_true rfl) ⟨(Nat.le_of_ble_eq_true rfl), (Nat.le_of_ble_eq_true rfl)⟩ dX6_digit_35 (fun H locs hR hS => ?_)
  refine lv_istore_n (lv' := [(3, .int r_3), (2, .int y0), (0, .ref (ad 369)), (1, .int x1)]) hx hb dX6_digit_38 rfl hl (by decide) rfl (fun ls hl => ?_)
  refine lv_aload_n hx hb dX6_digit_39 rfl (lv_at hl 2 rfl) ?_
  refine lv_dup hx hb dX6_digit_40 rfl ?_
  refine rg_6_3 X hR iX6_digit_6 wX6_digit_115 dX6_digit_41 ?_
  refine lv_iload_n hx hb dX6_digit_44 rfl (lv_at hl 0 rfl) ?_
  refine lv_if_eq (tgt := 52) hx hb dX6_digit_45 (by decide) (fun c_5 => ?_) (fun c_5 => ?_)
  · replace hf := ite_t c_5 hf
    refine lv_iconst (v := (0 : Int32)) hx hb dX6_digit_52 (by decide) ?_
    refine lv_iadd hx hb dX6_digit_53 ?_
    refine rp_6_3 X hR hS iX6_digit_6 wX6_digit_115 dX6_digit_54 (fun H locs hR hS => ?_)
    generalize teu S1 369 2 ((S1 369 2) + (0 : Int32)) = S2 at hf hR
    replace hf := lt1_e hf
    refine lv_iload_n hx hb dX6_digit_57 rfl (lv_at hl 0 rfl) ?_
    refine lv_if_eq (tgt := 65) hx hb dX6_digit_58 (by decide) (fun c_6 => ?_) (fun c_6 => ?_)
    · replace hf := ite_t c_6 hf
      refine lv_sipush (v := (-9999 : Int32)) hx hb dX6_digit_65 (by decide) ?_
      exact eI X hR hS (congrArg Prod.fst (Option.some.inj hf)) (congrArg Prod.snd (Option.some.inj hf)) dX6_digit_68
    · replace hf := ite_f c_6 hf
      refine lv_iload_n hx hb dX6_digit_61 rfl (lv_at hl 1 rfl) ?_
      refine lv_goto (tgt := 68) hx hb dX6_digit_62 (by decide) ?_
      exact eI X hR hS (congrArg Prod.fst (Option.some.inj hf)) (congrArg Prod.snd (Option.some.inj hf)) dX6_digit_68
  · replace hf := ite_f c_5 hf
    refine lv_iconst (v := (1 : Int32)) hx hb dX6_digit_48 (by decide) ?_
    refine lv_goto (tgt := 53) hx hb dX6_digit_49 (by decide) ?_
    refine lv_iadd hx hb dX6_digit_53 ?_
    refine rp_6_3 X hR hS iX6_digit_6 wX6_digit_115 dX6_digit_54 (fun H locs hR hS => ?_)
    generalize teu S1 369 2 ((S1 369 2) + (1 : Int32)) = S3 at hf hR
    replace hf := lt1_e hf
    refine lv_iload_n hx hb dX6_digit_57 rfl (lv_at hl 0 rfl) ?_
    refine lv_if_eq (tgt := 65) hx hb dX6_digit_58 (by decide) (fun c_7 => ?_) (fun c_7 => ?_)
    · replace hf := ite_t c_7 hf
      refine lv_sipush (v := (-9999 : Int32)) hx hb dX6_digit_65 (by decide) ?_
      exact eI X hR hS (congrArg Prod.fst (Option.some.inj hf)) (congrArg Prod.snd (Option.some.inj hf)) dX6_digit_68
    · replace hf := ite_f c_7 hf
      refine lv_iload_n hx hb dX6_digit_61 rfl (lv_at hl 1 rfl) ?_
      refine lv_goto (tgt := 68) hx hb dX6_digit_62 (by decide) ?_
      exact eI X hR hS (congrArg Prod.fst (Option.some.inj hf)) (congrArg Prod.snd (Option.some.inj hf)) dX6_digit_68
set_option maxRecDepth 100000 in
set_option maxHeartbeats 4000000 in
theorem bX6_digit_0 {p : Program} {l : Launch} {e : Env} {s : State} {m : MethodId} {args : Array Value} {below : List Frame} {meth : Method} {c : Code} {D : va_G} {cy : Nat → ClassId} {ad : Nat → Nat} {ba : Nat} {O : Int64} {S : teS}  {x1 : Int32} {res : (Int32 × teS)} (X : teC wsX6_digit RX6 cX6_digit 4 (some .int) D cy ba p s m args meth c) (H : Heap) (locs : List Loc) (ls : Array Slot) (hR : teR D cy ad ba O S H) (hS : va_S (teA ba) s.heap H locs) (hl : lv_has ls 4 [(0, .ref (ad 369)), (1, .int x1)]) (hf : fX6_digit x1 S = some res) : W p l e (headSpec wsX6_digit rmX6_digit).room s m args below meth c H locs 0 0 (MQ below (va_Qi (fun a (u : teS) => a = res.1 ∧ u = res.2) (fun u t => teR D cy ad ba O u t.heap) (teA ba)) args s 0 0 (teA ba)) (F0 m 0 ls []) := by
  have hx := X.1
  have hb := X.2.1
  have hown := X.2.2.2.2.1
  unfold fX6_digit at hf
  refine lv_aload_n hx hb dX6_digit_0 rfl (lv_at hl 0 rfl) ?_
  refine rg_6_3 X hR iX6_digit_6 wX6_digit_115 dX6_digit_1 ?_
  refine lv_aload_n hx hb dX6_digit_4 rfl (lv_at hl 0 rfl) ?_
  refine rg_6_2 X hR iX6_digit_6 wX6_digit_108 dX6_digit_5 ?_
  refine lv_icmp_ge (tgt := 26) hx hb dX6_digit_8 (by decide) (fun c_1 => ?_) (fun c_1 => ?_)
  · replace hf := ite_t c_1 hf
    refine lv_sipush (v := (-9999 : Int32)) hx hb dX6_digit_26 (by decide) ?_
    exact bX6_digit_29 (S := S) (x1 := x1) X S ((-9999 : Int32)) _ _ _ hR hS (lv_sub hl [0, 1] rfl) hf
  · replace hf := ite_f c_1 hf
    refine lv_aload_n hx hb dX6_digit_11 rfl (lv_at hl 0 rfl) ?_
    refine rg_6_1 X hR iX6_digit_6 wX6_digit_7 dX6_digit_12 ?_
    refine lv_aload_n hx hb dX6_digit_15 rfl (lv_at hl 0 rfl) ?_
    refine rg_6_3 X hR iX6_digit_6 wX6_digit_115 dX6_digit_16 ?_
    obtain ⟨h_2, hf⟩ := chk_some hf
    refine ra_int X hR (r := 370) rfl h_2 dX6_digit_19 ?_
    refine lv_bipush (v := (48 : Int32)) hx hb dX6_digit_20 (by decide) ?_
    refine lv_isub hx hb dX6_digit_22 ?_
    refine lv_goto (tgt := 29) hx hb dX6_digit_23 (by decide) ?_
    exact bX6_digit_29 (S := S) (x1 := x1) X S (((S 370 (S 369 2).toNatClampNeg) - (48 : Int32))) _ _ _ hR hS (lv_sub hl [0, 1] rfl) hf
theorem zcX6_digit (l : Launch) (D : va_G) (cy : Nat → ClassId) (ad : Nat → Nat) (ba : Nat) (O : Int64) (S : teS) (x1 : Int32) (r : Int32) (S1 : teS) (hf : fX6_digit x1 S = some (r, S1)) : cI l yX6_digit wsX6_digit rmX6_digit D cy ad ba O S [.ref (ad 369), .int x1] r S1 :=
  te_of (by decide) rfl (Nat.le_of_ble_eq_true rfl) (fun p e s m below meth c ls X hR hS hl => bX6_digit_0 (res := (r, S1)) (S := S) (x1 := x1) X _ _ _ hR hS hl hf)
abbrev rmX6_readMember : Room := { frames := 2, cells := 0, slots := 0, locals := 48 }
theorem kdX6_readMember : yX6_readMember.cls = RX6 ∧ yX6_readMember.cls ≠ "java/lang/invoke/MethodHandle" ∧ yX6_readMember.cls ≠ "java/lang/invoke/VarHandle" ∧ (parseMethodDescriptor yX6_readMember.desc).map (fun d => d.parameters.length) = some 0 := by decide +kernel
theorem wX6_readMember_13 : Cond.fieldLink RX6 13 "TandemExchangeModel" "read" "[I" ∈ wsX6_readMember := by decide +kernel
theorem iX6_readMember_6 : ∀ w ∈ wsX60, w ∈ wsX6_readMember := fun _ h => List.mem_cons_of_mem _ (List.mem_append_right _ h)
set_option maxRecDepth 100000 in
set_option maxHeartbeats 4000000 in
theorem bX6_readMember_130 {p : Program} {l : Launch} {e : Env} {s : State} {m : MethodId} {args : Array Value} {below : List Frame} {meth : Method} {c : Code} {D : va_G} {cy : Nat → ClassId} {ad : Nat → Nat} {ba : Nat} {O : Int64} {S : teS}  {res : (Int32 × teS)} (X : teC wsX6_readMember RX6 cX6_readMember 5 (some .boolean) D cy ba p s m args meth c) : ∀ (S1 : teS) (v1 : Int32) (v3 : Int32) (y0 : Int32) (H : Heap) (locs : List Loc) (ls : Array Slot), teR D cy ad ba O S1 H → va_S (teA ba) s.heap H locs → lv_has ls 5 [(0, .ref (ad 369)), (1, .int v1), (3, .int v3)] → fX6_readMember_130 S1 v1 v3 y0 = some res → W p l e (headSpec wsX6_readMember rmX6_readMember).room s m args below meth c H locs 0 0 (MQ below (va_Qi (fun a (u : teS) => a = res.1 ∧ u = res.2) (fun u t => teR D cy ad ba O u t.heap) (teA ba)) args s 0 0 (teA ba)) (F0 m 130 ls [.int y0]) := by
  have hx := X.1
  have hb := X.2.1
  have hown := X.2.2.2.2.1
  intro S1 v1 v3 y0 H locs ls hR hS hl hf
  unfold fX6_readMember_130 at hf
  refine lv_istore (lv' := [(4, .int y0), (0, .ref (ad 369)), (1, .int v1), (3, .int v3)]) hx hb dX6_readMember_130 hl (by decide) rfl (fun ls hl => ?_)
  refine lv_iload hx hb dX6_readMember_132 (lv_at hl 0 rfl) ?_
  refine lv_sipush (v := (-9999 : Int32)) hx hb dX6_readMember_134 (by decide) ?_
  refine lv_icmp_ne (tgt := 142) hx hb dX6_readMember_137 (by decide) (fun c_23 => ?_) (fun c_23 => ?_)
  · replace hf := ite_f c_23 hf
    refine lv_aload_n hx hb dX6_readMember_142 rfl (lv_at hl 1 rfl) ?_
    refine rg_6_4 X hR iX6_readMember_6 wX6_readMember_13 dX6_readMember_143 ?_
    refine lv_iload_n hx hb dX6_readMember_146 rfl (lv_at hl 2 rfl) ?_
    refine lv_iconst (v := (5 : Int32)) hx hb dX6_readMember_147 (by decide) ?_
    refine lv_iadd hx hb dX6_readMember_148 ?_
    refine lv_iconst (v := (0 : Int32)) hx hb dX6_readMember_149 (by decide) ?_
    obtain ⟨h_24, hf⟩ := chk_some hf
    refine rs_int X hR hS (r := 371) rfl h_24 dX6_readMember_150 (fun H locs hR hS => ?_)
    generalize teu S1 371 (v1 + (5 : Int32)).toNatClampNeg (0 : Int32) = S2 at hf hR
    replace hf := lt1_e hf
    refine lv_aload_n hx hb dX6_readMember_151 rfl (lv_at hl 1 rfl) ?_
    refine rg_6_4 X hR iX6_readMember_6 wX6_readMember_13 dX6_readMember_152 ?_
    refine lv_iload_n hx hb dX6_readMember_155 rfl (lv_at hl 2 rfl) ?_
    refine lv_bipush (v := (6 : Int32)) hx hb dX6_readMember_156 (by decide) ?_
    refine lv_iadd hx hb dX6_readMember_158 ?_
    refine lv_bipush (v := (10 : Int32)) hx hb dX6_readMember_159 (by decide) ?_
    refine lv_iload_n hx hb dX6_readMember_161 rfl (lv_at hl 3 rfl) ?_
    refine lv_imul hx hb dX6_readMember_162 ?_
    refine lv_iload hx hb dX6_readMember_163 (lv_at hl 0 rfl) ?_
    refine lv_iadd hx hb dX6_readMember_165 ?_
    obtain ⟨h_25, hf⟩ := chk_some hf
    refine rs_int X hR hS (r := 371) rfl h_25 dX6_readMember_166 (fun H locs hR hS => ?_)
    generalize teu S2 371 (v1 + (6 : Int32)).toNatClampNeg (((10 : Int32) * v3) + y0) = S3 at hf hR
    replace hf := lt1_e hf
    refine lv_aload_n hx hb dX6_readMember_167 rfl (lv_at hl 1 rfl) ?_
    refine rg_6_4 X hR iX6_readMember_6 wX6_readMember_13 dX6_readMember_168 ?_
    refine lv_iload_n hx hb dX6_readMember_171 rfl (lv_at hl 2 rfl) ?_
    refine lv_bipush (v := (7 : Int32)) hx hb dX6_readMember_172 (by decide) ?_
    refine lv_iadd hx hb dX6_readMember_174 ?_
    refine lv_iconst (v := (0 : Int32)) hx hb dX6_readMember_175 (by decide) ?_
    obtain ⟨h_26, hf⟩ := chk_some hf
    refine rs_int X hR hS (r := 371) rfl h_26 dX6_readMember_176 (fun H locs hR hS => ?_)
    generalize teu S3 371 (v1 + (7 : Int32)).toNatClampNeg (0 : Int32) = S4 at hf hR
    replace hf := lt1_e hf
    refine lv_aload_n hx hb dX6_readMember_177 rfl (lv_at hl 1 rfl) ?_
    refine rg_6_4 X hR iX6_readMember_6 wX6_readMember_13 dX6_readMember_178 ?_
    refine lv_aload_n hx hb dX6_readMember_181 rfl (lv_at hl 1 rfl) ?_
    refine rg_6_4 X hR iX6_readMember_6 wX6_readMember_13 dX6_readMember_182 ?_
    refine lv_iconst (v := (0 : Int32)) hx hb dX6_readMember_185 (by decide) ?_
    obtain ⟨h_27, hf⟩ := chk_some hf
    refine ra_int X hR (r := 371) rfl h_27 dX6_readMember_186 ?_
    obtain ⟨S5, hq_29, hf⟩ := bd1_some hf
    refine kSv (As := [.ref (ad 371), .int (S4 371 (0 : Int32).toNatClampNeg)]) (rest := []) X hR hS (zcX6_free l D cy ad ba O S4 371 (S4 371 (0 : Int32).toNatClampNeg) rfl _ hq_29) (va_cwS 2 X.2.2.2.2.2.1 gX6_readMember_X6_free rfl rfl rfl kdX6_free.2 ⟨(Nat.le_of_ble_eq_true rfl), (Nat.le_of_ble_eq_true rfl)⟩)  rfl rfl hl.1 (Nat.le_of_ble_eq_true rfl) ⟨(Nat.le_of_ble_eq_true rfl), (Nat.le_of_ble_eq_true rfl)⟩ dX6_readMember_187 (fun H locs hR hS => ?_)
    refine lv_aload_n hx hb dX6_readMember_190 rfl (lv_at hl 1 rfl) ?_
    refine rg_6_4 X hR iX6_readMember_6 wX6_readMember_13 dX6_readMember_191 ?_
    refine lv_iconst (v := (0 : Int32)) hx hb dX6_readMember_194 (by decide) ?_
    refine lv_dup2_11 hx hb dX6_readMember_195 rfl rfl ?_
    refine ra_int X hR (r := 371) rfl h_27 dX6_readMember_196 ?_
    refine lv_iconst (v := (1 : Int32)) hx hb dX6_readMember_197 (by decide) ?_
    refine lv_iadd hx hb dX6_readMember_198 ?_
    refine rs_int X hR hS (r := 371) rfl h_27 dX6_readMember_199 (fun H locs hR hS => ?_)
    generalize teu S5 371 (0 : Int32).toNatClampNeg ((S5 371 (0 : Int32).toNatClampNeg) + (1 : Int32)) = S6 at hf hR
    replace hf := lt1_e hf
    refine lv_iconst (v := (1 : Int32)) hx hb dX6_readMember_200 (by decide) ?_
    exact eZ X hR hS (by decide) (congrArg Prod.fst (Option.some.inj hf)) (congrArg Prod.snd (Option.some.inj hf)) dX6_readMember_201
  · replace hf := ite_t c_23 hf
    refine lv_iconst (v := (0 : Int32)) hx hb dX6_readMember_140 (by decide) ?_
    exact eZ X hR hS (by decide) (congrArg Prod.fst (Option.some.inj hf)) (congrArg Prod.snd (Option.some.inj hf)) dX6_readMember_141
set_option maxRecDepth 100000 in
set_option maxHeartbeats 4000000 in
theorem bX6_readMember_110 {p : Program} {l : Launch} {e : Env} {s : State} {m : MethodId} {args : Array Value} {below : List Frame} {meth : Method} {c : Code} {D : va_G} {cy : Nat → ClassId} {ad : Nat → Nat} {ba : Nat} {O : Int64} {S : teS}  {res : (Int32 × teS)} (X : teC wsX6_readMember RX6 cX6_readMember 5 (some .boolean) D cy ba p s m args meth c) : ∀ (S1 : teS) (v1 : Int32) (y0 : Int32) (H : Heap) (locs : List Loc) (ls : Array Slot), teR D cy ad ba O S1 H → va_S (teA ba) s.heap H locs → lv_has ls 5 [(0, .ref (ad 369)), (1, .int v1)] → fX6_readMember_110 S1 v1 y0 = some res → W p l e (headSpec wsX6_readMember rmX6_readMember).room s m args below meth c H locs 0 0 (MQ below (va_Qi (fun a (u : teS) => a = res.1 ∧ u = res.2) (fun u t => teR D cy ad ba O u t.heap) (teA ba)) args s 0 0 (teA ba)) (F0 m 110 ls [.int y0]) := by
  have hx := X.1
  have hb := X.2.1
  have hown := X.2.2.2.2.1
  intro S1 v1 y0 H locs ls hR hS hl hf
  unfold fX6_readMember_110 at hf
  refine lv_istore_n (lv' := [(3, .int y0), (0, .ref (ad 369)), (1, .int v1)]) hx hb dX6_readMember_110 rfl hl (by decide) rfl (fun ls hl => ?_)
  refine lv_iload_n hx hb dX6_readMember_111 rfl (lv_at hl 0 rfl) ?_
  refine lv_sipush (v := (-9999 : Int32)) hx hb dX6_readMember_112 (by decide) ?_
  refine lv_icmp_ne (tgt := 124) hx hb dX6_readMember_115 (by decide) (fun c_20 => ?_) (fun c_20 => ?_)
  · replace hf := ite_f c_20 hf
    refine lv_aload_n hx hb dX6_readMember_124 rfl (lv_at hl 1 rfl) ?_
    refine lv_bipush (v := (9 : Int32)) hx hb dX6_readMember_125 (by decide) ?_
    obtain ⟨r_21, S2, hq_22, hf⟩ := bd2_some hf
    refine kVi (id := 369) (As := [.int (9 : Int32)]) (rest := []) X hR hS (zcX6_digit l D cy ad ba O S1 (9 : Int32) _ _ hq_22) (cwV 1 X.2.2.2.2.2.1 gX6_readMember_X6_digit rfl rfl rfl kdX6_digit ⟨(Nat.le_of_ble_eq_true rfl), (Nat.le_of_ble_eq_true rfl)⟩) (by decide) rfl rfl rfl rfl hl.1 (Nat.le_of_ble_eq_true rfl) ⟨(Nat.le_of_ble_eq_true rfl), (Nat.le_of_ble_eq_true rfl)⟩ dX6_readMember_127 (fun H locs hR hS => ?_)
    exact bX6_readMember_130 (S := S)  X S2 (v1) (y0) (r_21) _ _ _ hR hS (lv_sub hl [1, 2, 0] rfl) hf
  · replace hf := ite_t c_20 hf
    refine lv_sipush (v := (-9999 : Int32)) hx hb dX6_readMember_118 (by decide) ?_
    refine lv_goto (tgt := 130) hx hb dX6_readMember_121 (by decide) ?_
    exact bX6_readMember_130 (S := S)  X S1 (v1) (y0) ((-9999 : Int32)) _ _ _ hR hS (lv_sub hl [1, 2, 0] rfl) hf
set_option maxRecDepth 100000 in
set_option maxHeartbeats 4000000 in
theorem bX6_readMember_45 {p : Program} {l : Launch} {e : Env} {s : State} {m : MethodId} {args : Array Value} {below : List Frame} {meth : Method} {c : Code} {D : va_G} {cy : Nat → ClassId} {ad : Nat → Nat} {ba : Nat} {O : Int64} {S : teS}  {res : (Int32 × teS)} (X : teC wsX6_readMember RX6 cX6_readMember 5 (some .boolean) D cy ba p s m args meth c) : ∀ (n : Nat), ∀ (S1 : teS) (v1 : Int32) (v2 : Int32) (v3 : Int32) (H : Heap) (locs : List Loc) (ls : Array Slot), teR D cy ad ba O S1 H → va_S (teA ba) s.heap H locs → lv_has ls 5 [(0, .ref (ad 369)), (1, .int v1), (2, .int v2), (3, .int v3)] → fX6_readMember_45 n S1 v1 v2 v3 = some res → W p l e (headSpec wsX6_readMember rmX6_readMember).room s m args below meth c H locs 0 0 (MQ below (va_Qi (fun a (u : teS) => a = res.1 ∧ u = res.2) (fun u t => teR D cy ad ba O u t.heap) (teA ba)) args s 0 0 (teA ba)) (F0 m 45 ls []) := by
  have hx := X.1
  have hb := X.2.1
  have hown := X.2.2.2.2.1
  intro n
  induction n with
  | zero =>
    intro S1 v1 v2 v3 H locs ls hR hS hl hf
    exact nomatch hf
  | succ n ih =>
    intro S1 v1 v2 v3 H locs ls hR hS hl hf
    unfold fX6_readMember_45 at hf
    refine lv_iload_n hx hb dX6_readMember_45 rfl (lv_at hl 3 rfl) ?_
    refine lv_iconst (v := (4 : Int32)) hx hb dX6_readMember_46 (by decide) ?_
    refine lv_icmp_ge (tgt := 94) hx hb dX6_readMember_47 (by decide) (fun c_8 => ?_) (fun c_8 => ?_)
    · replace hf := ite_t c_8 hf
      refine lv_iload_n hx hb dX6_readMember_94 rfl (lv_at hl 2 rfl) ?_
      refine lv_if_eq (tgt := 107) hx hb dX6_readMember_95 (by decide) (fun c_9 => ?_) (fun c_9 => ?_)
      · replace hf := ite_t c_9 hf
        refine lv_sipush (v := (-9999 : Int32)) hx hb dX6_readMember_107 (by decide) ?_
        exact bX6_readMember_110 (S := S)  X S1 (v1) ((-9999 : Int32)) _ _ _ hR hS (lv_sub hl [0, 1] rfl) hf
      · replace hf := ite_f c_9 hf
        refine lv_aload_n hx hb dX6_readMember_98 rfl (lv_at hl 0 rfl) ?_
        refine lv_bipush (v := (9 : Int32)) hx hb dX6_readMember_99 (by decide) ?_
        obtain ⟨r_10, S2, hq_11, hf⟩ := bd2_some hf
        refine kVi (id := 369) (As := [.int (9 : Int32)]) (rest := []) X hR hS (zcX6_digit l D cy ad ba O S1 (9 : Int32) _ _ hq_11) (cwV 1 X.2.2.2.2.2.1 gX6_readMember_X6_digit rfl rfl rfl kdX6_digit ⟨(Nat.le_of_ble_eq_true rfl), (Nat.le_of_ble_eq_true rfl)⟩) (by decide) rfl rfl rfl rfl hl.1 (Nat.le_of_ble_eq_true rfl) ⟨(Nat.le_of_ble_eq_true rfl), (Nat.le_of_ble_eq_true rfl)⟩ dX6_readMember_101 (fun H locs hR hS => ?_)
        refine lv_goto (tgt := 110) hx hb dX6_readMember_104 (by decide) ?_
        exact bX6_readMember_110 (S := S)  X S2 (v1) (r_10) _ _ _ hR hS (lv_sub hl [0, 1] rfl) hf
    · replace hf := ite_f c_8 hf
      refine lv_iload_n hx hb dX6_readMember_50 rfl (lv_at hl 2 rfl) ?_
      refine lv_if_eq (tgt := 94) hx hb dX6_readMember_51 (by decide) (fun c_12 => ?_) (fun c_12 => ?_)
      · replace hf := ite_t c_12 hf
        refine lv_iload_n hx hb dX6_readMember_94 rfl (lv_at hl 2 rfl) ?_
        refine lv_if_eq (tgt := 107) hx hb dX6_readMember_95 (by decide) (fun c_13 => ?_) (fun c_13 => ?_)
        · replace hf := ite_t c_13 hf
          refine lv_sipush (v := (-9999 : Int32)) hx hb dX6_readMember_107 (by decide) ?_
          exact bX6_readMember_110 (S := S)  X S1 (v1) ((-9999 : Int32)) _ _ _ hR hS (lv_sub hl [0, 1] rfl) hf
        · replace hf := ite_f c_13 hf
          refine lv_aload_n hx hb dX6_readMember_98 rfl (lv_at hl 0 rfl) ?_
          refine lv_bipush (v := (9 : Int32)) hx hb dX6_readMember_99 (by decide) ?_
          obtain ⟨r_14, S3, hq_15, hf⟩ := bd2_some hf
          refine kVi (id := 369) (As := [.int (9 : Int32)]) (rest := []) X hR hS (zcX6_digit l D cy ad ba O S1 (9 : Int32) _ _ hq_15) (cwV 1 X.2.2.2.2.2.1 gX6_readMember_X6_digit rfl rfl rfl kdX6_digit ⟨(Nat.le_of_ble_eq_true rfl), (Nat.le_of_ble_eq_true rfl)⟩) (by decide) rfl rfl rfl rfl hl.1 (Nat.le_of_ble_eq_true rfl) ⟨(Nat.le_of_ble_eq_true rfl), (Nat.le_of_ble_eq_true rfl)⟩ dX6_readMember_101 (fun H locs hR hS => ?_)
          refine lv_goto (tgt := 110) hx hb dX6_readMember_104 (by decide) ?_
          exact bX6_readMember_110 (S := S)  X S3 (v1) (r_14) _ _ _ hR hS (lv_sub hl [0, 1] rfl) hf
      · replace hf := ite_f c_12 hf
        refine lv_aload_n hx hb dX6_readMember_54 rfl (lv_at hl 0 rfl) ?_
        refine rg_6_4 X hR iX6_readMember_6 wX6_readMember_13 dX6_readMember_55 ?_
        refine lv_iload_n hx hb dX6_readMember_58 rfl (lv_at hl 1 rfl) ?_
        refine lv_iload_n hx hb dX6_readMember_59 rfl (lv_at hl 3 rfl) ?_
        refine lv_iadd hx hb dX6_readMember_60 ?_
        refine lv_aload_n hx hb dX6_readMember_61 rfl (lv_at hl 0 rfl) ?_
        refine lv_bipush (v := (9 : Int32)) hx hb dX6_readMember_62 (by decide) ?_
        obtain ⟨r_16, S4, hq_17, hf⟩ := bd2_some hf
        refine kVi (id := 369) (As := [.int (9 : Int32)]) (rest := [.int (v1 + v3), .ref (ad 371)]) X hR hS (zcX6_digit l D cy ad ba O S1 (9 : Int32) _ _ hq_17) (cwV 1 X.2.2.2.2.2.1 gX6_readMember_X6_digit rfl rfl rfl kdX6_digit ⟨(Nat.le_of_ble_eq_true rfl), (Nat.le_of_ble_eq_true rfl)⟩) (by decide) rfl rfl rfl rfl hl.1 (Nat.le_of_ble_eq_true rfl) ⟨(Nat.le_of_ble_eq_true rfl), (Nat.le_of_ble_eq_true rfl)⟩ dX6_readMember_64 (fun H locs hR hS => ?_)
        obtain ⟨h_18, hf⟩ := chk_some hf
        refine rs_int X hR hS (r := 371) rfl h_18 dX6_readMember_67 (fun H locs hR hS => ?_)
        generalize teu S4 371 (v1 + v3).toNatClampNeg r_16 = S5 at hf hR
        replace hf := lt1_e hf
        refine lv_aload_n hx hb dX6_readMember_68 rfl (lv_at hl 0 rfl) ?_
        refine rg_6_4 X hR iX6_readMember_6 wX6_readMember_13 dX6_readMember_69 ?_
        refine lv_iload_n hx hb dX6_readMember_72 rfl (lv_at hl 1 rfl) ?_
        refine lv_iload_n hx hb dX6_readMember_73 rfl (lv_at hl 3 rfl) ?_
        refine lv_iadd hx hb dX6_readMember_74 ?_
        refine ra_int X hR (r := 371) rfl h_18 dX6_readMember_75 ?_
        refine lv_sipush (v := (-9999 : Int32)) hx hb dX6_readMember_76 (by decide) ?_
        refine lv_icmp_eq (tgt := 86) hx hb dX6_readMember_79 (by decide) (fun c_19 => ?_) (fun c_19 => ?_)
        · replace hf := ite_t c_19 hf
          refine lv_iconst (v := (0 : Int32)) hx hb dX6_readMember_86 (by decide) ?_
          refine lv_istore_n (lv' := [(2, .int (0 : Int32)), (0, .ref (ad 369)), (1, .int v1), (3, .int v3)]) hx hb dX6_readMember_87 rfl hl (by decide) rfl (fun ls hl => ?_)
          refine lv_iinc (v := (v3 + (1 : Int32))) (lv' := [(3, .int (v3 + (1 : Int32))), (2, .int (0 : Int32)), (0, .ref (ad 369)), (1, .int v1)]) hx hb dX6_readMember_88 hl (k := 3) rfl rfl (by decide) rfl (fun ls hl => ?_)
          refine lv_goto (tgt := 45) hx hb dX6_readMember_91 (by decide) ?_
          exact ih S5 (v1) ((0 : Int32)) ((v3 + (1 : Int32))) _ _ _ hR hS (lv_sub hl [2, 3, 1, 0] rfl) hf
        · replace hf := ite_f c_19 hf
          refine lv_iconst (v := (1 : Int32)) hx hb dX6_readMember_82 (by decide) ?_
          refine lv_goto (tgt := 87) hx hb dX6_readMember_83 (by decide) ?_
          refine lv_istore_n (lv' := [(2, .int (1 : Int32)), (0, .ref (ad 369)), (1, .int v1), (3, .int v3)]) hx hb dX6_readMember_87 rfl hl (by decide) rfl (fun ls hl => ?_)
          refine lv_iinc (v := (v3 + (1 : Int32))) (lv' := [(3, .int (v3 + (1 : Int32))), (2, .int (1 : Int32)), (0, .ref (ad 369)), (1, .int v1)]) hx hb dX6_readMember_88 hl (k := 3) rfl rfl (by decide) rfl (fun ls hl => ?_)
          refine lv_goto (tgt := 45) hx hb dX6_readMember_91 (by decide) ?_
          exact ih S5 (v1) ((1 : Int32)) ((v3 + (1 : Int32))) _ _ _ hR hS (lv_sub hl [2, 3, 1, 0] rfl) hf
set_option maxRecDepth 100000 in
set_option maxHeartbeats 4000000 in
theorem bX6_readMember_0 {p : Program} {l : Launch} {e : Env} {s : State} {m : MethodId} {args : Array Value} {below : List Frame} {meth : Method} {c : Code} {D : va_G} {cy : Nat → ClassId} {ad : Nat → Nat} {ba : Nat} {O : Int64} {S : teS}  {res : (Int32 × teS)} (X : teC wsX6_readMember RX6 cX6_readMember 5 (some .boolean) D cy ba p s m args meth c) (H : Heap) (locs : List Loc) (ls : Array Slot) (hR : teR D cy ad ba O S H) (hS : va_S (teA ba) s.heap H locs) (hl : lv_has ls 5 [(0, .ref (ad 369))]) (hf : fX6_readMember S = some res) : W p l e (headSpec wsX6_readMember rmX6_readMember).room s m args below meth c H locs 0 0 (MQ below (va_Qi (fun a (u : teS) => a = res.1 ∧ u = res.2) (fun u t => teR D cy ad ba O u t.heap) (teA ba)) args s 0 0 (teA ba)) (F0 m 0 ls []) := by
  have hx := X.1
  have hb := X.2.1
  have hown := X.2.2.2.2.1
  unfold fX6_readMember at hf
  refine lv_aload_n hx hb dX6_readMember_0 rfl (lv_at hl 0 rfl) ?_
  refine rg_6_4 X hR iX6_readMember_6 wX6_readMember_13 dX6_readMember_1 ?_
  refine lv_iconst (v := (0 : Int32)) hx hb dX6_readMember_4 (by decide) ?_
  obtain ⟨h_1, hf⟩ := chk_some hf
  refine ra_int X hR (r := 371) rfl h_1 dX6_readMember_5 ?_
  obtain ⟨r_2, hq_3, hf⟩ := bd1_some hf
  refine kSi (As := [.int (S 371 (0 : Int32).toNatClampNeg)]) (rest := []) X hR hS (zcX6_at l D cy ad ba O S (S 371 (0 : Int32).toNatClampNeg) _ hq_3) (va_cwS 1 X.2.2.2.2.2.1 gX6_readMember_X6_at rfl rfl rfl kdX6_at.2 ⟨(Nat.le_of_ble_eq_true rfl), (Nat.le_of_ble_eq_true rfl)⟩)  rfl rfl hl.1 (Nat.le_of_ble_eq_true rfl) ⟨(Nat.le_of_ble_eq_true rfl), (Nat.le_of_ble_eq_true rfl)⟩ dX6_readMember_6 (fun H locs hR hS => ?_)
  refine lv_istore_n (lv' := [(1, .int r_2), (0, .ref (ad 369))]) hx hb dX6_readMember_9 rfl hl (by decide) rfl (fun ls hl => ?_)
  refine lv_aload_n hx hb dX6_readMember_10 rfl (lv_at hl 1 rfl) ?_
  refine rg_6_4 X hR iX6_readMember_6 wX6_readMember_13 dX6_readMember_11 ?_
  refine lv_iload_n hx hb dX6_readMember_14 rfl (lv_at hl 0 rfl) ?_
  refine lv_iconst (v := (4 : Int32)) hx hb dX6_readMember_15 (by decide) ?_
  refine lv_iadd hx hb dX6_readMember_16 ?_
  refine lv_aload_n hx hb dX6_readMember_17 rfl (lv_at hl 1 rfl) ?_
  refine lv_iconst (v := (3 : Int32)) hx hb dX6_readMember_18 (by decide) ?_
  obtain ⟨r_4, S1, hq_5, hf⟩ := bd2_some hf
  refine kVi (id := 369) (As := [.int (3 : Int32)]) (rest := [.int (r_2 + (4 : Int32)), .ref (ad 371)]) X hR hS (zcX6_digit l D cy ad ba O S (3 : Int32) _ _ hq_5) (cwV 1 X.2.2.2.2.2.1 gX6_readMember_X6_digit rfl rfl rfl kdX6_digit ⟨(Nat.le_of_ble_eq_true rfl), (Nat.le_of_ble_eq_true rfl)⟩) (by decide) rfl rfl rfl rfl hl.1 (Nat.le_of_ble_eq_true rfl) ⟨(Nat.le_of_ble_eq_true rfl), (Nat.le_of_ble_eq_true rfl)⟩ dX6_readMember_19 (fun H locs hR hS => ?_)
  obtain ⟨h_6, hf⟩ := chk_some hf
  refine rs_int X hR hS (r := 371) rfl h_6 dX6_readMember_22 (fun H locs hR hS => ?_)
  generalize teu S1 371 (r_2 + (4 : Int32)).toNatClampNeg r_4 = S2 at hf hR
  replace hf := lt1_e hf
  refine lv_aload_n hx hb dX6_readMember_23 rfl (lv_at hl 1 rfl) ?_
  refine rg_6_4 X hR iX6_readMember_6 wX6_readMember_13 dX6_readMember_24 ?_
  refine lv_iload_n hx hb dX6_readMember_27 rfl (lv_at hl 0 rfl) ?_
  refine lv_iconst (v := (4 : Int32)) hx hb dX6_readMember_28 (by decide) ?_
  refine lv_iadd hx hb dX6_readMember_29 ?_
  refine ra_int X hR (r := 371) rfl h_6 dX6_readMember_30 ?_
  refine lv_sipush (v := (-9999 : Int32)) hx hb dX6_readMember_31 (by decide) ?_
  refine lv_icmp_eq (tgt := 41) hx hb dX6_readMember_34 (by decide) (fun c_7 => ?_) (fun c_7 => ?_)
  · replace hf := ite_t c_7 hf
    refine lv_iconst (v := (0 : Int32)) hx hb dX6_readMember_41 (by decide) ?_
    refine lv_istore_n (lv' := [(2, .int (0 : Int32)), (1, .int r_2), (0, .ref (ad 369))]) hx hb dX6_readMember_42 rfl hl (by decide) rfl (fun ls hl => ?_)
    refine lv_iconst (v := (0 : Int32)) hx hb dX6_readMember_43 (by decide) ?_
    refine lv_istore_n (lv' := [(3, .int (0 : Int32)), (2, .int (0 : Int32)), (1, .int r_2), (0, .ref (ad 369))]) hx hb dX6_readMember_44 rfl hl (by decide) rfl (fun ls hl => ?_)
    exact bX6_readMember_45 (S := S)  X 2000 S2 (r_2) ((0 : Int32)) ((0 : Int32)) _ _ _ hR hS (lv_sub hl [3, 2, 1, 0] rfl) hf
  · replace hf := ite_f c_7 hf
    refine lv_iconst (v := (1 : Int32)) hx hb dX6_readMember_37 (by decide) ?_
    refine lv_goto (tgt := 42) hx hb dX6_readMember_38 (by decide) ?_
    refine lv_istore_n (lv' := [(2, .int (1 : Int32)), (1, .int r_2), (0, .ref (ad 369))]) hx hb dX6_readMember_42 rfl hl (by decide) rfl (fun ls hl => ?_)
    refine lv_iconst (v := (0 : Int32)) hx hb dX6_readMember_43 (by decide) ?_
    refine lv_istore_n (lv' := [(3, .int (0 : Int32)), (2, .int (1 : Int32)), (1, .int r_2), (0, .ref (ad 369))]) hx hb dX6_readMember_44 rfl hl (by decide) rfl (fun ls hl => ?_)
    exact bX6_readMember_45 (S := S)  X 2000 S2 (r_2) ((1 : Int32)) ((0 : Int32)) _ _ _ hR hS (lv_sub hl [3, 2, 1, 0] rfl) hf
theorem zcX6_readMember (l : Launch) (D : va_G) (cy : Nat → ClassId) (ad : Nat → Nat) (ba : Nat) (O : Int64) (S : teS) (r : Int32) (S1 : teS) (hf : fX6_readMember S = some (r, S1)) : cI l yX6_readMember wsX6_readMember rmX6_readMember D cy ad ba O S [.ref (ad 369)] r S1 :=
  te_of (by decide) rfl (Nat.le_of_ble_eq_true rfl) (fun p e s m below meth c ls X hR hS hl => bX6_readMember_0 (res := (r, S1)) (S := S)  X _ _ _ hR hS hl hf)
abbrev rmX6_readAll : Room := { frames := 3, cells := 0, slots := 0, locals := 72 }
theorem kdX6_readAll : yX6_readAll.cls = RX6 ∧ yX6_readAll.cls ≠ "java/lang/invoke/MethodHandle" ∧ yX6_readAll.cls ≠ "java/lang/invoke/VarHandle" ∧ (parseMethodDescriptor yX6_readAll.desc).map (fun d => d.parameters.length) = some 0 := by decide +kernel
theorem wX6_readAll_115 : Cond.fieldLink RX6 115 "TandemExchangeModel" "spot" "I" ∈ wsX6_readAll := by decide +kernel
theorem iX6_readAll_6 : ∀ w ∈ wsX60, w ∈ wsX6_readAll := by decide +kernel
theorem wX6_readAll_13 : Cond.fieldLink RX6 13 "TandemExchangeModel" "read" "[I" ∈ wsX6_readAll := by decide +kernel
theorem wX6_readAll_108 : Cond.fieldLink RX6 108 "TandemExchangeModel" "textSize" "I" ∈ wsX6_readAll := by decide +kernel
set_option maxRecDepth 100000 in
set_option maxHeartbeats 4000000 in
theorem bX6_readAll_30 {p : Program} {l : Launch} {e : Env} {s : State} {m : MethodId} {args : Array Value} {below : List Frame} {meth : Method} {c : Code} {D : va_G} {cy : Nat → ClassId} {ad : Nat → Nat} {ba : Nat} {O : Int64} {S : teS}  {res : (Int32 × teS)} (X : teC wsX6_readAll RX6 cX6_readAll 1 (some .boolean) D cy ba p s m args meth c) : ∀ (n : Nat), ∀ (S1 : teS) (H : Heap) (locs : List Loc) (ls : Array Slot), teR D cy ad ba O S1 H → va_S (teA ba) s.heap H locs → lv_has ls 1 [(0, .ref (ad 369))] → fX6_readAll_30 n S1 = some res → W p l e (headSpec wsX6_readAll rmX6_readAll).room s m args below meth c H locs 0 0 (MQ below (va_Qi (fun a (u : teS) => a = res.1 ∧ u = res.2) (fun u t => teR D cy ad ba O u t.heap) (teA ba)) args s 0 0 (teA ba)) (F0 m 30 ls []) := by
  have hx := X.1
  have hb := X.2.1
  have hown := X.2.2.2.2.1
  intro n
  induction n with
  | zero =>
    intro S1 H locs ls hR hS hl hf
    exact nomatch hf
  | succ n ih =>
    intro S1 H locs ls hR hS hl hf
    unfold fX6_readAll_30 at hf
    refine lv_aload_n hx hb dX6_readAll_30 rfl (lv_at hl 0 rfl) ?_
    refine rg_6_4 X hR iX6_readAll_6 wX6_readAll_13 dX6_readAll_31 ?_
    refine lv_iconst (v := (0 : Int32)) hx hb dX6_readAll_34 (by decide) ?_
    obtain ⟨h_6, hf⟩ := chk_some hf
    refine ra_int X hR (r := 371) rfl h_6 dX6_readAll_35 ?_
    refine lv_bipush (v := (9 : Int32)) hx hb dX6_readAll_36 (by decide) ?_
    refine lv_icmp_ge (tgt := 59) hx hb dX6_readAll_38 (by decide) (fun c_7 => ?_) (fun c_7 => ?_)
    · replace hf := ite_t c_7 hf
      refine lv_aload_n hx hb dX6_readAll_59 rfl (lv_at hl 0 rfl) ?_
      refine rg_6_3 X hR iX6_readAll_6 wX6_readAll_115 dX6_readAll_60 ?_
      refine lv_aload_n hx hb dX6_readAll_63 rfl (lv_at hl 0 rfl) ?_
      refine rg_6_2 X hR iX6_readAll_6 wX6_readAll_108 dX6_readAll_64 ?_
      refine lv_icmp_ne (tgt := 74) hx hb dX6_readAll_67 (by decide) (fun c_8 => ?_) (fun c_8 => ?_)
      · replace hf := ite_f c_8 hf
        refine lv_iconst (v := (0 : Int32)) hx hb dX6_readAll_74 (by decide) ?_
        exact eZ X hR hS (by decide) (congrArg Prod.fst (Option.some.inj hf)) (congrArg Prod.snd (Option.some.inj hf)) dX6_readAll_75
      · replace hf := ite_t c_8 hf
        refine lv_iconst (v := (1 : Int32)) hx hb dX6_readAll_70 (by decide) ?_
        refine lv_goto (tgt := 75) hx hb dX6_readAll_71 (by decide) ?_
        exact eZ X hR hS (by decide) (congrArg Prod.fst (Option.some.inj hf)) (congrArg Prod.snd (Option.some.inj hf)) dX6_readAll_75
    · replace hf := ite_f c_7 hf
      refine lv_aload_n hx hb dX6_readAll_41 rfl (lv_at hl 0 rfl) ?_
      refine lv_bipush (v := (109 : Int32)) hx hb dX6_readAll_42 (by decide) ?_
      obtain ⟨r_9, S2, hq_10, hf⟩ := bd2_some hf
      refine kVi (id := 369) (As := [.int (109 : Int32)]) (rest := []) X hR hS (zcX6_eat l D cy ad ba O S1 (109 : Int32) _ _ hq_10) (cwV 1 X.2.2.2.2.2.1 gX6_readAll_X6_eat rfl rfl rfl kdX6_eat ⟨(Nat.le_of_ble_eq_true rfl), (Nat.le_of_ble_eq_true rfl)⟩) (by decide) rfl rfl rfl rfl hl.1 (Nat.le_of_ble_eq_true rfl) ⟨(Nat.le_of_ble_eq_true rfl), (Nat.le_of_ble_eq_true rfl)⟩ dX6_readAll_44 (fun H locs hR hS => ?_)
      refine lv_if_eq (tgt := 59) hx hb dX6_readAll_47 (by decide) (fun c_11 => ?_) (fun c_11 => ?_)
      · replace hf := ite_t c_11 hf
        refine lv_aload_n hx hb dX6_readAll_59 rfl (lv_at hl 0 rfl) ?_
        refine rg_6_3 X hR iX6_readAll_6 wX6_readAll_115 dX6_readAll_60 ?_
        refine lv_aload_n hx hb dX6_readAll_63 rfl (lv_at hl 0 rfl) ?_
        refine rg_6_2 X hR iX6_readAll_6 wX6_readAll_108 dX6_readAll_64 ?_
        refine lv_icmp_ne (tgt := 74) hx hb dX6_readAll_67 (by decide) (fun c_12 => ?_) (fun c_12 => ?_)
        · replace hf := ite_f c_12 hf
          refine lv_iconst (v := (0 : Int32)) hx hb dX6_readAll_74 (by decide) ?_
          exact eZ X hR hS (by decide) (congrArg Prod.fst (Option.some.inj hf)) (congrArg Prod.snd (Option.some.inj hf)) dX6_readAll_75
        · replace hf := ite_t c_12 hf
          refine lv_iconst (v := (1 : Int32)) hx hb dX6_readAll_70 (by decide) ?_
          refine lv_goto (tgt := 75) hx hb dX6_readAll_71 (by decide) ?_
          exact eZ X hR hS (by decide) (congrArg Prod.fst (Option.some.inj hf)) (congrArg Prod.snd (Option.some.inj hf)) dX6_readAll_75
      · replace hf := ite_f c_11 hf
        refine lv_aload_n hx hb dX6_readAll_50 rfl (lv_at hl 0 rfl) ?_
        obtain ⟨r_13, S3, hq_14, hf⟩ := bd2_some hf
        refine kVi (id := 369) (As := []) (rest := []) X hR hS (zcX6_readMember l D cy ad ba O S2 _ _ hq_14) (cwV 0 X.2.2.2.2.2.1 gX6_readAll_X6_readMember rfl rfl rfl kdX6_readMember ⟨(Nat.le_of_ble_eq_true rfl), (Nat.le_of_ble_eq_true rfl)⟩) (by decide) rfl rfl rfl rfl hl.1 (Nat.le_of_ble_eq_true rfl) ⟨(Nat.le_of_ble_eq_true rfl), (Nat.le_of_ble_eq_true rfl)⟩ dX6_readAll_51 (fun H locs hR hS => ?_)
        refine lv_if_ne (tgt := 30) hx hb dX6_readAll_54 (by decide) (fun c_15 => ?_) (fun c_15 => ?_)
        · replace hf := ite_f c_15 hf
          exact ih S3 _ _ _ hR hS (lv_sub hl [0] rfl) hf
        · replace hf := ite_t c_15 hf
          refine lv_iconst (v := (0 : Int32)) hx hb dX6_readAll_57 (by decide) ?_
          exact eZ X hR hS (by decide) (congrArg Prod.fst (Option.some.inj hf)) (congrArg Prod.snd (Option.some.inj hf)) dX6_readAll_58
set_option maxRecDepth 100000 in
set_option maxHeartbeats 4000000 in
theorem bX6_readAll_0 {p : Program} {l : Launch} {e : Env} {s : State} {m : MethodId} {args : Array Value} {below : List Frame} {meth : Method} {c : Code} {D : va_G} {cy : Nat → ClassId} {ad : Nat → Nat} {ba : Nat} {O : Int64} {S : teS}  {res : (Int32 × teS)} (X : teC wsX6_readAll RX6 cX6_readAll 1 (some .boolean) D cy ba p s m args meth c) (H : Heap) (locs : List Loc) (ls : Array Slot) (hR : teR D cy ad ba O S H) (hS : va_S (teA ba) s.heap H locs) (hl : lv_has ls 1 [(0, .ref (ad 369))]) (hf : fX6_readAll S = some res) : W p l e (headSpec wsX6_readAll rmX6_readAll).room s m args below meth c H locs 0 0 (MQ below (va_Qi (fun a (u : teS) => a = res.1 ∧ u = res.2) (fun u t => teR D cy ad ba O u t.heap) (teA ba)) args s 0 0 (teA ba)) (F0 m 0 ls []) := by
  have hx := X.1
  have hb := X.2.1
  have hown := X.2.2.2.2.1
  unfold fX6_readAll at hf
  refine lv_aload_n hx hb dX6_readAll_0 rfl (lv_at hl 0 rfl) ?_
  refine lv_iconst (v := (0 : Int32)) hx hb dX6_readAll_1 (by decide) ?_
  refine rp_6_3 X hR hS iX6_readAll_6 wX6_readAll_115 dX6_readAll_2 (fun H locs hR hS => ?_)
  generalize teu S 369 2 (0 : Int32) = S1 at hf hR
  replace hf := lt1_e hf
  refine lv_aload_n hx hb dX6_readAll_5 rfl (lv_at hl 0 rfl) ?_
  refine rg_6_4 X hR iX6_readAll_6 wX6_readAll_13 dX6_readAll_6 ?_
  refine lv_iconst (v := (0 : Int32)) hx hb dX6_readAll_9 (by decide) ?_
  refine lv_iconst (v := (0 : Int32)) hx hb dX6_readAll_10 (by decide) ?_
  obtain ⟨h_1, hf⟩ := chk_some hf
  refine rs_int X hR hS (r := 371) rfl h_1 dX6_readAll_11 (fun H locs hR hS => ?_)
  generalize teu S1 371 (0 : Int32).toNatClampNeg (0 : Int32) = S2 at hf hR
  replace hf := lt1_e hf
  refine lv_aload_n hx hb dX6_readAll_12 rfl (lv_at hl 0 rfl) ?_
  refine rg_6_4 X hR iX6_readAll_6 wX6_readAll_13 dX6_readAll_13 ?_
  refine lv_iconst (v := (1 : Int32)) hx hb dX6_readAll_16 (by decide) ?_
  refine lv_iconst (v := (0 : Int32)) hx hb dX6_readAll_17 (by decide) ?_
  obtain ⟨h_2, hf⟩ := chk_some hf
  refine rs_int X hR hS (r := 371) rfl h_2 dX6_readAll_18 (fun H locs hR hS => ?_)
  generalize teu S2 371 (1 : Int32).toNatClampNeg (0 : Int32) = S3 at hf hR
  replace hf := lt1_e hf
  refine lv_aload_n hx hb dX6_readAll_19 rfl (lv_at hl 0 rfl) ?_
  refine lv_bipush (v := (76 : Int32)) hx hb dX6_readAll_20 (by decide) ?_
  obtain ⟨r_3, S4, hq_4, hf⟩ := bd2_some hf
  refine kVi (id := 369) (As := [.int (76 : Int32)]) (rest := []) X hR hS (zcX6_eat l D cy ad ba O S3 (76 : Int32) _ _ hq_4) (cwV 1 X.2.2.2.2.2.1 gX6_readAll_X6_eat rfl rfl rfl kdX6_eat ⟨(Nat.le_of_ble_eq_true rfl), (Nat.le_of_ble_eq_true rfl)⟩) (by decide) rfl rfl rfl rfl hl.1 (Nat.le_of_ble_eq_true rfl) ⟨(Nat.le_of_ble_eq_true rfl), (Nat.le_of_ble_eq_true rfl)⟩ dX6_readAll_22 (fun H locs hR hS => ?_)
  refine lv_if_ne (tgt := 30) hx hb dX6_readAll_25 (by decide) (fun c_5 => ?_) (fun c_5 => ?_)
  · replace hf := ite_f c_5 hf
    exact bX6_readAll_30 (S := S)  X 2000 S4 _ _ _ hR hS (lv_sub hl [0] rfl) hf
  · replace hf := ite_t c_5 hf
    refine lv_iconst (v := (0 : Int32)) hx hb dX6_readAll_28 (by decide) ?_
    exact eZ X hR hS (by decide) (congrArg Prod.fst (Option.some.inj hf)) (congrArg Prod.snd (Option.some.inj hf)) dX6_readAll_29
theorem zcX6_readAll (l : Launch) (D : va_G) (cy : Nat → ClassId) (ad : Nat → Nat) (ba : Nat) (O : Int64) (S : teS) (r : Int32) (S1 : teS) (hf : fX6_readAll S = some (r, S1)) : cI l yX6_readAll wsX6_readAll rmX6_readAll D cy ad ba O S [.ref (ad 369)] r S1 :=
  te_of (by decide) rfl (Nat.le_of_ble_eq_true rfl) (fun p e s m below meth c ls X hR hS hl => bX6_readAll_0 (res := (r, S1)) (S := S)  X _ _ _ hR hS hl hf)
abbrev rmX6_errorPosition : Room := { frames := 4, cells := 0, slots := 0, locals := 92 }
theorem kdX6_errorPosition : yX6_errorPosition.cls = RX6 ∧ yX6_errorPosition.cls ≠ "java/lang/invoke/MethodHandle" ∧ yX6_errorPosition.cls ≠ "java/lang/invoke/VarHandle" ∧ (parseMethodDescriptor yX6_errorPosition.desc).map (fun d => d.parameters.length) = some 0 := by decide +kernel
theorem wX6_errorPosition_38 : Cond.fieldLink RX6 38 "TandemExchangeModel" "refusal" "I" ∈ wsX6_errorPosition := by decide +kernel
theorem iX6_errorPosition_6 : ∀ w ∈ wsX60, w ∈ wsX6_errorPosition := by decide +kernel
theorem wX6_errorPosition_115 : Cond.fieldLink RX6 115 "TandemExchangeModel" "spot" "I" ∈ wsX6_errorPosition := by decide +kernel
set_option maxRecDepth 100000 in
set_option maxHeartbeats 4000000 in
theorem bX6_errorPosition_0 {p : Program} {l : Launch} {e : Env} {s : State} {m : MethodId} {args : Array Value} {below : List Frame} {meth : Method} {c : Code} {D : va_G} {cy : Nat → ClassId} {ad : Nat → Nat} {ba : Nat} {O : Int64} {S : teS}  {res : (Int32 × teS)} (X : teC wsX6_errorPosition RX6 cX6_errorPosition 1 (some .int) D cy ba p s m args meth c) (H : Heap) (locs : List Loc) (ls : Array Slot) (hR : teR D cy ad ba O S H) (hS : va_S (teA ba) s.heap H locs) (hl : lv_has ls 1 [(0, .ref (ad 369))]) (hf : fX6_errorPosition S = some res) : W p l e (headSpec wsX6_errorPosition rmX6_errorPosition).room s m args below meth c H locs 0 0 (MQ below (va_Qi (fun a (u : teS) => a = res.1 ∧ u = res.2) (fun u t => teR D cy ad ba O u t.heap) (teA ba)) args s 0 0 (teA ba)) (F0 m 0 ls []) := by
  have hx := X.1
  have hb := X.2.1
  have hown := X.2.2.2.2.1
  unfold fX6_errorPosition at hf
  refine lv_aload_n hx hb dX6_errorPosition_0 rfl (lv_at hl 0 rfl) ?_
  refine lv_iconst (v := (0 : Int32)) hx hb dX6_errorPosition_1 (by decide) ?_
  refine rp_6_0 X hR hS iX6_errorPosition_6 wX6_errorPosition_38 dX6_errorPosition_2 (fun H locs hR hS => ?_)
  generalize teu S 369 0 (0 : Int32) = S1 at hf hR
  replace hf := lt1_e hf
  refine lv_aload_n hx hb dX6_errorPosition_5 rfl (lv_at hl 0 rfl) ?_
  obtain ⟨r_1, S2, hq_2, hf⟩ := bd2_some hf
  refine kVi (id := 369) (As := []) (rest := []) X hR hS (zcX6_readAll l D cy ad ba O S1 _ _ hq_2) (cwV 0 X.2.2.2.2.2.1 gX6_errorPosition_X6_readAll rfl rfl rfl kdX6_readAll ⟨(Nat.le_of_ble_eq_true rfl), (Nat.le_of_ble_eq_true rfl)⟩) (by decide) rfl rfl rfl rfl hl.1 (Nat.le_of_ble_eq_true rfl) ⟨(Nat.le_of_ble_eq_true rfl), (Nat.le_of_ble_eq_true rfl)⟩ dX6_errorPosition_6 (fun H locs hR hS => ?_)
  refine lv_if_eq (tgt := 18) hx hb dX6_errorPosition_9 (by decide) (fun c_3 => ?_) (fun c_3 => ?_)
  · replace hf := ite_t c_3 hf
    refine lv_aload_n hx hb dX6_errorPosition_18 rfl (lv_at hl 0 rfl) ?_
    refine rg_6_3 X hR iX6_errorPosition_6 wX6_errorPosition_115 dX6_errorPosition_19 ?_
    exact eI X hR hS (congrArg Prod.fst (Option.some.inj hf)) (congrArg Prod.snd (Option.some.inj hf)) dX6_errorPosition_22
  · replace hf := ite_f c_3 hf
    refine lv_sipush (v := (-9999 : Int32)) hx hb dX6_errorPosition_12 (by decide) ?_
    refine lv_goto (tgt := 22) hx hb dX6_errorPosition_15 (by decide) ?_
    exact eI X hR hS (congrArg Prod.fst (Option.some.inj hf)) (congrArg Prod.snd (Option.some.inj hf)) dX6_errorPosition_22
theorem zcX6_errorPosition (l : Launch) (D : va_G) (cy : Nat → ClassId) (ad : Nat → Nat) (ba : Nat) (O : Int64) (S : teS) (r : Int32) (S1 : teS) (hf : fX6_errorPosition S = some (r, S1)) : cI l yX6_errorPosition wsX6_errorPosition rmX6_errorPosition D cy ad ba O S [.ref (ad 369)] r S1 :=
  te_of (by decide) rfl (Nat.le_of_ble_eq_true rfl) (fun p e s m below meth c ls X hR hS hl => bX6_errorPosition_0 (res := (r, S1)) (S := S)  X _ _ _ hR hS hl hf)
abbrev rmX6_load : Room := { frames := 4, cells := 0, slots := 0, locals := 92 }
theorem kdX6_load : yX6_load.cls = RX6 ∧ yX6_load.cls ≠ "java/lang/invoke/MethodHandle" ∧ yX6_load.cls ≠ "java/lang/invoke/VarHandle" ∧ (parseMethodDescriptor yX6_load.desc).map (fun d => d.parameters.length) = some 0 := by decide +kernel
theorem wX6_load_13 : Cond.fieldLink RX6 13 "TandemExchangeModel" "read" "[I" ∈ wsX6_load := by decide +kernel
theorem iX6_load_6 : ∀ w ∈ wsX60, w ∈ wsX6_load := by decide +kernel
theorem wX6_load_16 : Cond.fieldLink RX6 16 "TandemExchangeModel" "now" "[I" ∈ wsX6_load := by decide +kernel
theorem wX6_load_135 : Cond.fieldLink RX6 135 "TandemExchangeModel" "acts" "I" ∈ wsX6_load := by decide +kernel
theorem wX6_load_28 : Cond.fieldLink RX6 28 "TandemExchangeModel" "isKept" "[Z" ∈ wsX6_load := by decide +kernel
set_option maxRecDepth 100000 in
set_option maxHeartbeats 4000000 in
theorem bX6_load_13 {p : Program} {l : Launch} {e : Env} {s : State} {m : MethodId} {args : Array Value} {below : List Frame} {meth : Method} {c : Code} {D : va_G} {cy : Nat → ClassId} {ad : Nat → Nat} {ba : Nat} {O : Int64} {S : teS}  {res : (Int32 × teS)} (X : teC wsX6_load RX6 cX6_load 1 (some .int) D cy ba p s m args meth c) : ∀ (S1 : teS) (y0 : Int32) (H : Heap) (locs : List Loc) (ls : Array Slot), teR D cy ad ba O S1 H → va_S (teA ba) s.heap H locs → lv_has ls 1 [(0, .ref (ad 369))] → fX6_load_13 S1 y0 = some res → W p l e (headSpec wsX6_load rmX6_load).room s m args below meth c H locs 0 0 (MQ below (va_Qi (fun a (u : teS) => a = res.1 ∧ u = res.2) (fun u t => teR D cy ad ba O u t.heap) (teA ba)) args s 0 0 (teA ba)) (F0 m 13 ls [.int y0, .ref (ad 369)]) := by
  have hx := X.1
  have hb := X.2.1
  have hown := X.2.2.2.2.1
  intro S1 y0 H locs ls hR hS hl hf
  unfold fX6_load_13 at hf
  obtain ⟨r_4, S2, hq_5, hf⟩ := bd2_some hf
  refine kVi (id := 369) (As := [.int y0]) (rest := []) X hR hS (zcX6_refused l D cy ad ba O S1 y0 _ _ hq_5) (cwV 1 X.2.2.2.2.2.1 gX6_load_X6_refused rfl rfl rfl kdX6_refused ⟨(Nat.le_of_ble_eq_true rfl), (Nat.le_of_ble_eq_true rfl)⟩) (by decide) rfl rfl rfl rfl hl.1 (Nat.le_of_ble_eq_true rfl) ⟨(Nat.le_of_ble_eq_true rfl), (Nat.le_of_ble_eq_true rfl)⟩ dX6_load_13 (fun H locs hR hS => ?_)
  refine lv_if_eq (tgt := 21) hx hb dX6_load_16 (by decide) (fun c_6 => ?_) (fun c_6 => ?_)
  · replace hf := ite_t c_6 hf
    refine lv_aload_n hx hb dX6_load_21 rfl (lv_at hl 0 rfl) ?_
    refine rg_6_4 X hR iX6_load_6 wX6_load_13 dX6_load_22 ?_
    refine lv_iconst (v := (0 : Int32)) hx hb dX6_load_25 (by decide) ?_
    refine lv_aload_n hx hb dX6_load_26 rfl (lv_at hl 0 rfl) ?_
    refine rg_6_5 X hR iX6_load_6 wX6_load_16 dX6_load_27 ?_
    refine lv_iconst (v := (0 : Int32)) hx hb dX6_load_30 (by decide) ?_
    obtain ⟨S3, hq_8, hf⟩ := bd1_some hf
    refine kSv (As := [.ref (ad 371), .int (0 : Int32), .ref (ad 372), .int (0 : Int32)]) (rest := []) X hR hS (zcX6_copyPage l D cy ad ba O S2 371 (0 : Int32) 372 (0 : Int32) rfl rfl _ hq_8) (va_cwS 4 X.2.2.2.2.2.1 gX6_load_X6_copyPage rfl rfl rfl kdX6_copyPage.2 ⟨(Nat.le_of_ble_eq_true rfl), (Nat.le_of_ble_eq_true rfl)⟩)  rfl rfl hl.1 (Nat.le_of_ble_eq_true rfl) ⟨(Nat.le_of_ble_eq_true rfl), (Nat.le_of_ble_eq_true rfl)⟩ dX6_load_31 (fun H locs hR hS => ?_)
    refine lv_aload_n hx hb dX6_load_34 rfl (lv_at hl 0 rfl) ?_
    refine lv_iconst (v := (0 : Int32)) hx hb dX6_load_35 (by decide) ?_
    refine rp_6_8 X hR hS iX6_load_6 wX6_load_135 dX6_load_36 (fun H locs hR hS => ?_)
    generalize teu S3 369 3 (0 : Int32) = S4 at hf hR
    replace hf := lt1_e hf
    refine lv_aload_n hx hb dX6_load_39 rfl (lv_at hl 0 rfl) ?_
    refine rg_6_10 X hR iX6_load_6 wX6_load_28 dX6_load_40 ?_
    refine lv_iconst (v := (0 : Int32)) hx hb dX6_load_43 (by decide) ?_
    refine lv_iconst (v := (0 : Int32)) hx hb dX6_load_44 (by decide) ?_
    obtain ⟨h_9, hf⟩ := chk_some hf
    refine rs_z376 X hR hS h_9 dX6_load_45 (fun H locs hR hS => ?_)
    generalize teu S4 376 (0 : Int32).toNatClampNeg (vp_nar .boolean (0 : Int32)) = S5 at hf hR
    replace hf := lt1_e hf
    refine lv_aload_n hx hb dX6_load_46 rfl (lv_at hl 0 rfl) ?_
    refine rg_6_10 X hR iX6_load_6 wX6_load_28 dX6_load_47 ?_
    refine lv_iconst (v := (1 : Int32)) hx hb dX6_load_50 (by decide) ?_
    refine lv_iconst (v := (0 : Int32)) hx hb dX6_load_51 (by decide) ?_
    obtain ⟨h_10, hf⟩ := chk_some hf
    refine rs_z376 X hR hS h_10 dX6_load_52 (fun H locs hR hS => ?_)
    generalize teu S5 376 (1 : Int32).toNatClampNeg (vp_nar .boolean (0 : Int32)) = S6 at hf hR
    replace hf := lt1_e hf
    refine lv_aload_n hx hb dX6_load_53 rfl (lv_at hl 0 rfl) ?_
    refine rg_6_5 X hR iX6_load_6 wX6_load_16 dX6_load_54 ?_
    refine lv_iconst (v := (0 : Int32)) hx hb dX6_load_57 (by decide) ?_
    obtain ⟨h_11, hf⟩ := chk_some hf
    refine ra_int X hR (r := 372) rfl h_11 dX6_load_58 ?_
    exact eI X hR hS (congrArg Prod.fst (Option.some.inj hf)) (congrArg Prod.snd (Option.some.inj hf)) dX6_load_59
  · replace hf := ite_f c_6 hf
    refine lv_iconst (v := (0 : Int32)) hx hb dX6_load_19 (by decide) ?_
    exact eI X hR hS (congrArg Prod.fst (Option.some.inj hf)) (congrArg Prod.snd (Option.some.inj hf)) dX6_load_20
set_option maxRecDepth 100000 in
set_option maxHeartbeats 4000000 in
theorem bX6_load_0 {p : Program} {l : Launch} {e : Env} {s : State} {m : MethodId} {args : Array Value} {below : List Frame} {meth : Method} {c : Code} {D : va_G} {cy : Nat → ClassId} {ad : Nat → Nat} {ba : Nat} {O : Int64} {S : teS}  {res : (Int32 × teS)} (X : teC wsX6_load RX6 cX6_load 1 (some .int) D cy ba p s m args meth c) (H : Heap) (locs : List Loc) (ls : Array Slot) (hR : teR D cy ad ba O S H) (hS : va_S (teA ba) s.heap H locs) (hl : lv_has ls 1 [(0, .ref (ad 369))]) (hf : fX6_load S = some res) : W p l e (headSpec wsX6_load rmX6_load).room s m args below meth c H locs 0 0 (MQ below (va_Qi (fun a (u : teS) => a = res.1 ∧ u = res.2) (fun u t => teR D cy ad ba O u t.heap) (teA ba)) args s 0 0 (teA ba)) (F0 m 0 ls []) := by
  have hx := X.1
  have hb := X.2.1
  have hown := X.2.2.2.2.1
  unfold fX6_load at hf
  refine lv_aload_n hx hb dX6_load_0 rfl (lv_at hl 0 rfl) ?_
  refine lv_aload_n hx hb dX6_load_1 rfl (lv_at hl 0 rfl) ?_
  obtain ⟨r_1, S1, hq_2, hf⟩ := bd2_some hf
  refine kVi (id := 369) (As := []) (rest := [.ref (ad 369)]) X hR hS (zcX6_readAll l D cy ad ba O S _ _ hq_2) (cwV 0 X.2.2.2.2.2.1 gX6_load_X6_readAll rfl rfl rfl kdX6_readAll ⟨(Nat.le_of_ble_eq_true rfl), (Nat.le_of_ble_eq_true rfl)⟩) (by decide) rfl rfl rfl rfl hl.1 (Nat.le_of_ble_eq_true rfl) ⟨(Nat.le_of_ble_eq_true rfl), (Nat.le_of_ble_eq_true rfl)⟩ dX6_load_2 (fun H locs hR hS => ?_)
  refine lv_if_eq (tgt := 12) hx hb dX6_load_5 (by decide) (fun c_3 => ?_) (fun c_3 => ?_)
  · replace hf := ite_t c_3 hf
    refine lv_iconst (v := (1 : Int32)) hx hb dX6_load_12 (by decide) ?_
    exact bX6_load_13 (S := S)  X S1 ((1 : Int32)) _ _ _ hR hS (lv_sub hl [0] rfl) hf
  · replace hf := ite_f c_3 hf
    refine lv_iconst (v := (0 : Int32)) hx hb dX6_load_8 (by decide) ?_
    refine lv_goto (tgt := 13) hx hb dX6_load_9 (by decide) ?_
    exact bX6_load_13 (S := S)  X S1 ((0 : Int32)) _ _ _ hR hS (lv_sub hl [0] rfl) hf
theorem zcX6_load (l : Launch) (D : va_G) (cy : Nat → ClassId) (ad : Nat → Nat) (ba : Nat) (O : Int64) (S : teS) (r : Int32) (S1 : teS) (hf : fX6_load S = some (r, S1)) : cI l yX6_load wsX6_load rmX6_load D cy ad ba O S [.ref (ad 369)] r S1 :=
  te_of (by decide) rfl (Nat.le_of_ble_eq_true rfl) (fun p e s m below meth c ls X hR hS hl => bX6_load_0 (res := (r, S1)) (S := S)  X _ _ _ hR hS hl hf)
abbrev rmX6_over : Room := { frames := 5, cells := 0, slots := 0, locals := 109 }
theorem kdX6_over : yX6_over.cls = RX6 ∧ yX6_over.cls ≠ "java/lang/invoke/MethodHandle" ∧ yX6_over.cls ≠ "java/lang/invoke/VarHandle" ∧ (parseMethodDescriptor yX6_over.desc).map (fun d => d.parameters.length) = some 2 := by decide +kernel
set_option maxRecDepth 100000 in
set_option maxHeartbeats 4000000 in
theorem bX6_over_115 {p : Program} {l : Launch} {e : Env} {s : State} {m : MethodId} {args : Array Value} {below : List Frame} {meth : Method} {c : Code} {D : va_G} {cy : Nat → ClassId} {ad : Nat → Nat} {ba : Nat} {O : Int64} {S : teS}  {r0 : Nat} {x1 : Int32} {res : Int32} (hr0 : teK r0 = true) (X : teC wsX6_over RX6 cX6_over 6 (some .int) D cy ba p s m args meth c) {q4 : teS → Int32 → Int32 → Option Int32} (hq4 : ∀  (v2 : Int32) (v3 : Int32) (H : Heap) (locs : List Loc) (ls : Array Slot), teR D cy ad ba O S H → va_S (teA ba) s.heap H locs → lv_has ls 6 [(0, .ref (ad r0)), (1, .int x1), (2, .int v2), (3, .int v3)] → q4 S v2 v3 = some res → W p l e (headSpec wsX6_over rmX6_over).room s m args below meth c H locs 0 0 (MQ below (va_Qi (fun a (u : teS) => a = res ∧ u = S) (fun u t => teR D cy ad ba O u t.heap) (teA ba)) args s 0 0 (teA ba)) (F0 m 4 ls [])) {q16 : teS → Int32 → Int32 → Int32 → Option Int32} (hq16 : ∀  (v2 : Int32) (v3 : Int32) (v4 : Int32) (H : Heap) (locs : List Loc) (ls : Array Slot), teR D cy ad ba O S H → va_S (teA ba) s.heap H locs → lv_has ls 6 [(0, .ref (ad r0)), (1, .int x1), (2, .int v2), (3, .int v3), (4, .int v4)] → q16 S v2 v3 v4 = some res → W p l e (headSpec wsX6_over rmX6_over).room s m args below meth c H locs 0 0 (MQ below (va_Qi (fun a (u : teS) => a = res ∧ u = S) (fun u t => teR D cy ad ba O u t.heap) (teA ba)) args s 0 0 (teA ba)) (F0 m 16 ls [])) : ∀  (v3 : Int32) (v4 : Int32) (y0 : Int32) (y1 : Int32) (H : Heap) (locs : List Loc) (ls : Array Slot), teR D cy ad ba O S H → va_S (teA ba) s.heap H locs → lv_has ls 6 [(0, .ref (ad r0)), (1, .int x1), (3, .int v3), (4, .int v4)] → fX6_over_115 r0 x1 q4 q16 S v3 v4 y0 y1 = some res → W p l e (headSpec wsX6_over rmX6_over).room s m args below meth c H locs 0 0 (MQ below (va_Qi (fun a (u : teS) => a = res ∧ u = S) (fun u t => teR D cy ad ba O u t.heap) (teA ba)) args s 0 0 (teA ba)) (F0 m 115 ls [.int y0, .int y1]) := by
  have hx := X.1
  have hb := X.2.1
  have hown := X.2.2.2.2.1
  intro v3 v4 y0 y1 H locs ls hR hS hl hf
  unfold fX6_over_115 at hf
  refine lv_iadd hx hb dX6_over_115 ?_
  refine lv_istore_n (lv' := [(2, .int (y1 + y0)), (0, .ref (ad r0)), (1, .int x1), (3, .int v3), (4, .int v4)]) hx hb dX6_over_116 rfl hl (by decide) rfl (fun ls hl => ?_)
  refine lv_iinc (v := (v4 + (1 : Int32))) (lv' := [(4, .int (v4 + (1 : Int32))), (2, .int (y1 + y0)), (0, .ref (ad r0)), (1, .int x1), (3, .int v3)]) hx hb dX6_over_117 hl (k := 4) rfl rfl (by decide) rfl (fun ls hl => ?_)
  refine lv_goto (tgt := 16) hx hb dX6_over_120 (by decide) ?_
  exact hq16 ((y1 + y0)) (v3) ((v4 + (1 : Int32))) _ _ _ hR hS (lv_sub hl [2, 3, 1, 4, 0] rfl) hf
set_option maxRecDepth 100000 in
set_option maxHeartbeats 4000000 in
theorem bX6_over_43 {p : Program} {l : Launch} {e : Env} {s : State} {m : MethodId} {args : Array Value} {below : List Frame} {meth : Method} {c : Code} {D : va_G} {cy : Nat → ClassId} {ad : Nat → Nat} {ba : Nat} {O : Int64} {S : teS}  {r0 : Nat} {x1 : Int32} {res : Int32} (hr0 : teK r0 = true) (X : teC wsX6_over RX6 cX6_over 6 (some .int) D cy ba p s m args meth c) {q4 : teS → Int32 → Int32 → Option Int32} (hq4 : ∀  (v2 : Int32) (v3 : Int32) (H : Heap) (locs : List Loc) (ls : Array Slot), teR D cy ad ba O S H → va_S (teA ba) s.heap H locs → lv_has ls 6 [(0, .ref (ad r0)), (1, .int x1), (2, .int v2), (3, .int v3)] → q4 S v2 v3 = some res → W p l e (headSpec wsX6_over rmX6_over).room s m args below meth c H locs 0 0 (MQ below (va_Qi (fun a (u : teS) => a = res ∧ u = S) (fun u t => teR D cy ad ba O u t.heap) (teA ba)) args s 0 0 (teA ba)) (F0 m 4 ls [])) {q16 : teS → Int32 → Int32 → Int32 → Option Int32} (hq16 : ∀  (v2 : Int32) (v3 : Int32) (v4 : Int32) (H : Heap) (locs : List Loc) (ls : Array Slot), teR D cy ad ba O S H → va_S (teA ba) s.heap H locs → lv_has ls 6 [(0, .ref (ad r0)), (1, .int x1), (2, .int v2), (3, .int v3), (4, .int v4)] → q16 S v2 v3 v4 = some res → W p l e (headSpec wsX6_over rmX6_over).room s m args below meth c H locs 0 0 (MQ below (va_Qi (fun a (u : teS) => a = res ∧ u = S) (fun u t => teR D cy ad ba O u t.heap) (teA ba)) args s 0 0 (teA ba)) (F0 m 16 ls [])) : ∀  (v2 : Int32) (v3 : Int32) (v4 : Int32) (y0 : Int32) (H : Heap) (locs : List Loc) (ls : Array Slot), teR D cy ad ba O S H → va_S (teA ba) s.heap H locs → lv_has ls 6 [(0, .ref (ad r0)), (1, .int x1), (2, .int v2), (3, .int v3), (4, .int v4)] → fX6_over_43 r0 x1 q4 q16 S v2 v3 v4 y0 = some res → W p l e (headSpec wsX6_over rmX6_over).room s m args below meth c H locs 0 0 (MQ below (va_Qi (fun a (u : teS) => a = res ∧ u = S) (fun u t => teR D cy ad ba O u t.heap) (teA ba)) args s 0 0 (teA ba)) (F0 m 43 ls [.int y0]) := by
  have hx := X.1
  have hb := X.2.1
  have hown := X.2.2.2.2.1
  intro v2 v3 v4 y0 H locs ls hR hS hl hf
  unfold fX6_over_43 at hf
  refine lv_istore (lv' := [(5, .int y0), (0, .ref (ad r0)), (1, .int x1), (2, .int v2), (3, .int v3), (4, .int v4)]) hx hb dX6_over_43 hl (by decide) rfl (fun ls hl => ?_)
  refine lv_iload_n hx hb dX6_over_45 rfl (lv_at hl 3 rfl) ?_
  refine lv_iload_n hx hb dX6_over_46 rfl (lv_at hl 2 rfl) ?_
  refine lv_iconst (v := (1 : Int32)) hx hb dX6_over_47 (by decide) ?_
  refine lv_icmp_ne (tgt := 70) hx hb dX6_over_48 (by decide) (fun c_9 => ?_) (fun c_9 => ?_)
  · replace hf := ite_f c_9 hf
    refine lv_iload_n hx hb dX6_over_70 rfl (lv_at hl 2 rfl) ?_
    refine lv_if_ne (tgt := 82) hx hb dX6_over_71 (by decide) (fun c_10 => ?_) (fun c_10 => ?_)
    · replace hf := ite_f c_10 hf
      refine lv_iload_n hx hb dX6_over_82 rfl (lv_at hl 2 rfl) ?_
      refine lv_iconst (v := (2 : Int32)) hx hb dX6_over_83 (by decide) ?_
      refine lv_icmp_ne (tgt := 100) hx hb dX6_over_84 (by decide) (fun c_11 => ?_) (fun c_11 => ?_)
      · replace hf := ite_f c_11 hf
        refine lv_aload_n hx hb dX6_over_100 rfl (lv_at hl 1 rfl) ?_
        refine lv_iload_n hx hb dX6_over_101 rfl (lv_at hl 4 rfl) ?_
        refine lv_iload hx hb dX6_over_102 (lv_at hl 5 rfl) ?_
        obtain ⟨r_12, hq_13, hf⟩ := bd1_some hf
        refine kSi (As := [.ref (ad r0), .int v3, .int v4]) (rest := [.int v2]) X hR hS (zcX6_fit l D cy ad ba O S r0 v3 v4 hr0 _ hq_13) (va_cwS 3 X.2.2.2.2.2.1 gX6_over_X6_fit rfl rfl rfl kdX6_fit.2 ⟨(Nat.le_of_ble_eq_true rfl), (Nat.le_of_ble_eq_true rfl)⟩)  rfl rfl hl.1 (Nat.le_of_ble_eq_true rfl) ⟨(Nat.le_of_ble_eq_true rfl), (Nat.le_of_ble_eq_true rfl)⟩ dX6_over_104 (fun H locs hR hS => ?_)
        refine lv_if_eq (tgt := 114) hx hb dX6_over_107 (by decide) (fun c_14 => ?_) (fun c_14 => ?_)
        · replace hf := ite_t c_14 hf
          refine lv_iconst (v := (0 : Int32)) hx hb dX6_over_114 (by decide) ?_
          exact bX6_over_115 (S := S) (r0 := r0) (x1 := x1) hr0 X hq4 hq16 (v3) (v4) ((0 : Int32)) (v2) _ _ _ hR hS (lv_sub hl [1, 2, 4, 5] rfl) hf
        · replace hf := ite_f c_14 hf
          refine lv_iconst (v := (1 : Int32)) hx hb dX6_over_110 (by decide) ?_
          refine lv_goto (tgt := 115) hx hb dX6_over_111 (by decide) ?_
          exact bX6_over_115 (S := S) (r0 := r0) (x1 := x1) hr0 X hq4 hq16 (v3) (v4) ((1 : Int32)) (v2) _ _ _ hR hS (lv_sub hl [1, 2, 4, 5] rfl) hf
      · replace hf := ite_t c_11 hf
        refine lv_aload_n hx hb dX6_over_87 rfl (lv_at hl 1 rfl) ?_
        refine lv_iload_n hx hb dX6_over_88 rfl (lv_at hl 4 rfl) ?_
        refine lv_iload hx hb dX6_over_89 (lv_at hl 5 rfl) ?_
        obtain ⟨r_15, hq_16, hf⟩ := bd1_some hf
        refine kSi (As := [.ref (ad r0), .int v3, .int v4]) (rest := [.int v2]) X hR hS (zcX6_block l D cy ad ba O S r0 v3 v4 hr0 _ hq_16) (va_cwS 3 X.2.2.2.2.2.1 gX6_over_X6_block rfl rfl rfl kdX6_block.2 ⟨(Nat.le_of_ble_eq_true rfl), (Nat.le_of_ble_eq_true rfl)⟩)  rfl rfl hl.1 (Nat.le_of_ble_eq_true rfl) ⟨(Nat.le_of_ble_eq_true rfl), (Nat.le_of_ble_eq_true rfl)⟩ dX6_over_91 (fun H locs hR hS => ?_)
        refine lv_if_eq (tgt := 114) hx hb dX6_over_94 (by decide) (fun c_17 => ?_) (fun c_17 => ?_)
        · replace hf := ite_t c_17 hf
          refine lv_iconst (v := (0 : Int32)) hx hb dX6_over_114 (by decide) ?_
          exact bX6_over_115 (S := S) (r0 := r0) (x1 := x1) hr0 X hq4 hq16 (v3) (v4) ((0 : Int32)) (v2) _ _ _ hR hS (lv_sub hl [1, 2, 4, 5] rfl) hf
        · replace hf := ite_f c_17 hf
          refine lv_goto (tgt := 110) hx hb dX6_over_97 (by decide) ?_
          refine lv_iconst (v := (1 : Int32)) hx hb dX6_over_110 (by decide) ?_
          refine lv_goto (tgt := 115) hx hb dX6_over_111 (by decide) ?_
          exact bX6_over_115 (S := S) (r0 := r0) (x1 := x1) hr0 X hq4 hq16 (v3) (v4) ((1 : Int32)) (v2) _ _ _ hR hS (lv_sub hl [1, 2, 4, 5] rfl) hf
    · replace hf := ite_t c_10 hf
      refine lv_iload hx hb dX6_over_74 (lv_at hl 0 rfl) ?_
      refine lv_if_eq (tgt := 114) hx hb dX6_over_76 (by decide) (fun c_18 => ?_) (fun c_18 => ?_)
      · replace hf := ite_t c_18 hf
        refine lv_iconst (v := (0 : Int32)) hx hb dX6_over_114 (by decide) ?_
        exact bX6_over_115 (S := S) (r0 := r0) (x1 := x1) hr0 X hq4 hq16 (v3) (v4) ((0 : Int32)) (v2) _ _ _ hR hS (lv_sub hl [1, 2, 4, 5] rfl) hf
      · replace hf := ite_f c_18 hf
        refine lv_goto (tgt := 110) hx hb dX6_over_79 (by decide) ?_
        refine lv_iconst (v := (1 : Int32)) hx hb dX6_over_110 (by decide) ?_
        refine lv_goto (tgt := 115) hx hb dX6_over_111 (by decide) ?_
        exact bX6_over_115 (S := S) (r0 := r0) (x1 := x1) hr0 X hq4 hq16 (v3) (v4) ((1 : Int32)) (v2) _ _ _ hR hS (lv_sub hl [1, 2, 4, 5] rfl) hf
  · replace hf := ite_t c_9 hf
    refine lv_iload hx hb dX6_over_51 (lv_at hl 0 rfl) ?_
    refine lv_if_eq (tgt := 66) hx hb dX6_over_53 (by decide) (fun c_19 => ?_) (fun c_19 => ?_)
    · replace hf := ite_t c_19 hf
      refine lv_iconst (v := (0 : Int32)) hx hb dX6_over_66 (by decide) ?_
      refine lv_goto (tgt := 115) hx hb dX6_over_67 (by decide) ?_
      exact bX6_over_115 (S := S) (r0 := r0) (x1 := x1) hr0 X hq4 hq16 (v3) (v4) ((0 : Int32)) (v2) _ _ _ hR hS (lv_sub hl [1, 2, 4, 5] rfl) hf
    · replace hf := ite_f c_19 hf
      refine lv_aload_n hx hb dX6_over_56 rfl (lv_at hl 1 rfl) ?_
      refine lv_iload_n hx hb dX6_over_57 rfl (lv_at hl 4 rfl) ?_
      refine lv_iload hx hb dX6_over_58 (lv_at hl 5 rfl) ?_
      obtain ⟨r_20, hq_21, hf⟩ := bd1_some hf
      refine kSi (As := [.ref (ad r0), .int v3, .int v4]) (rest := [.int v2]) X hR hS (zcX6_valueOf l D cy ad ba O S r0 v3 v4 hr0 _ hq_21) (va_cwS 3 X.2.2.2.2.2.1 gX6_over_X6_valueOf rfl rfl rfl kdX6_valueOf.2 ⟨(Nat.le_of_ble_eq_true rfl), (Nat.le_of_ble_eq_true rfl)⟩)  rfl rfl hl.1 (Nat.le_of_ble_eq_true rfl) ⟨(Nat.le_of_ble_eq_true rfl), (Nat.le_of_ble_eq_true rfl)⟩ dX6_over_60 (fun H locs hR hS => ?_)
      refine lv_goto (tgt := 115) hx hb dX6_over_63 (by decide) ?_
      exact bX6_over_115 (S := S) (r0 := r0) (x1 := x1) hr0 X hq4 hq16 (v3) (v4) (r_20) (v2) _ _ _ hR hS (lv_sub hl [1, 2, 4, 5] rfl) hf
set_option maxRecDepth 100000 in
set_option maxHeartbeats 4000000 in
theorem bX6_over_16 {p : Program} {l : Launch} {e : Env} {s : State} {m : MethodId} {args : Array Value} {below : List Frame} {meth : Method} {c : Code} {D : va_G} {cy : Nat → ClassId} {ad : Nat → Nat} {ba : Nat} {O : Int64} {S : teS}  {r0 : Nat} {x1 : Int32} {res : Int32} (hr0 : teK r0 = true) (X : teC wsX6_over RX6 cX6_over 6 (some .int) D cy ba p s m args meth c) {q4 : teS → Int32 → Int32 → Option Int32} (hq4 : ∀  (v2 : Int32) (v3 : Int32) (H : Heap) (locs : List Loc) (ls : Array Slot), teR D cy ad ba O S H → va_S (teA ba) s.heap H locs → lv_has ls 6 [(0, .ref (ad r0)), (1, .int x1), (2, .int v2), (3, .int v3)] → q4 S v2 v3 = some res → W p l e (headSpec wsX6_over rmX6_over).room s m args below meth c H locs 0 0 (MQ below (va_Qi (fun a (u : teS) => a = res ∧ u = S) (fun u t => teR D cy ad ba O u t.heap) (teA ba)) args s 0 0 (teA ba)) (F0 m 4 ls [])) : ∀ (n : Nat), ∀  (v2 : Int32) (v3 : Int32) (v4 : Int32) (H : Heap) (locs : List Loc) (ls : Array Slot), teR D cy ad ba O S H → va_S (teA ba) s.heap H locs → lv_has ls 6 [(0, .ref (ad r0)), (1, .int x1), (2, .int v2), (3, .int v3), (4, .int v4)] → fX6_over_16 r0 x1 q4 n S v2 v3 v4 = some res → W p l e (headSpec wsX6_over rmX6_over).room s m args below meth c H locs 0 0 (MQ below (va_Qi (fun a (u : teS) => a = res ∧ u = S) (fun u t => teR D cy ad ba O u t.heap) (teA ba)) args s 0 0 (teA ba)) (F0 m 16 ls []) := by
  have hx := X.1
  have hb := X.2.1
  have hown := X.2.2.2.2.1
  intro n
  induction n with
  | zero =>
    intro v2 v3 v4 H locs ls hR hS hl hf
    exact nomatch hf
  | succ n ih =>
    intro v2 v3 v4 H locs ls hR hS hl hf
    unfold fX6_over_16 at hf
    refine lv_iload hx hb dX6_over_16 (lv_at hl 4 rfl) ?_
    refine lv_aload_n hx hb dX6_over_18 rfl (lv_at hl 0 rfl) ?_
    refine lv_iconst (v := (0 : Int32)) hx hb dX6_over_19 (by decide) ?_
    obtain ⟨h_3, hf⟩ := chk_some hf
    refine ra_int X hR (r := r0) hr0 h_3 dX6_over_20 ?_
    refine lv_icmp_ge (tgt := 123) hx hb dX6_over_21 (by decide) (fun c_4 => ?_) (fun c_4 => ?_)
    · replace hf := ite_t c_4 hf
      refine lv_iinc (v := (v3 + (1 : Int32))) (lv' := [(3, .int (v3 + (1 : Int32))), (0, .ref (ad r0)), (1, .int x1), (2, .int v2), (4, .int v4)]) hx hb dX6_over_123 hl (k := 3) rfl rfl (by decide) rfl (fun ls hl => ?_)
      refine lv_goto (tgt := 4) hx hb dX6_over_126 (by decide) ?_
      exact hq4 (v2) ((v3 + (1 : Int32))) _ _ _ hR hS (lv_sub hl [1, 2, 3, 0] rfl) hf
    · replace hf := ite_f c_4 hf
      refine lv_aload_n hx hb dX6_over_24 rfl (lv_at hl 0 rfl) ?_
      refine lv_iload_n hx hb dX6_over_25 rfl (lv_at hl 3 rfl) ?_
      obtain ⟨r_5, hq_6, hf⟩ := bd1_some hf
      refine kSi (As := [.int v3]) (rest := [.ref (ad r0)]) X hR hS (zcX6_at l D cy ad ba O S v3 _ hq_6) (va_cwS 1 X.2.2.2.2.2.1 gX6_over_X6_at rfl rfl rfl kdX6_at.2 ⟨(Nat.le_of_ble_eq_true rfl), (Nat.le_of_ble_eq_true rfl)⟩)  rfl rfl hl.1 (Nat.le_of_ble_eq_true rfl) ⟨(Nat.le_of_ble_eq_true rfl), (Nat.le_of_ble_eq_true rfl)⟩ dX6_over_26 (fun H locs hR hS => ?_)
      refine lv_bipush (v := (8 : Int32)) hx hb dX6_over_29 (by decide) ?_
      refine lv_iadd hx hb dX6_over_31 ?_
      obtain ⟨h_7, hf⟩ := chk_some hf
      refine ra_int X hR (r := r0) hr0 h_7 dX6_over_32 ?_
      refine lv_iload hx hb dX6_over_33 (lv_at hl 4 rfl) ?_
      refine lv_icmp_ne (tgt := 42) hx hb dX6_over_35 (by decide) (fun c_8 => ?_) (fun c_8 => ?_)
      · replace hf := ite_f c_8 hf
        refine lv_iconst (v := (0 : Int32)) hx hb dX6_over_42 (by decide) ?_
        exact bX6_over_43 (S := S) (r0 := r0) (x1 := x1) hr0 X hq4 ih (v2) (v3) (v4) ((0 : Int32)) _ _ _ hR hS (lv_sub hl [0, 1, 2, 3, 4] rfl) hf
      · replace hf := ite_t c_8 hf
        refine lv_iconst (v := (1 : Int32)) hx hb dX6_over_38 (by decide) ?_
        refine lv_goto (tgt := 43) hx hb dX6_over_39 (by decide) ?_
        exact bX6_over_43 (S := S) (r0 := r0) (x1 := x1) hr0 X hq4 ih (v2) (v3) (v4) ((1 : Int32)) _ _ _ hR hS (lv_sub hl [0, 1, 2, 3, 4] rfl) hf
set_option maxRecDepth 100000 in
set_option maxHeartbeats 4000000 in
theorem bX6_over_4 {p : Program} {l : Launch} {e : Env} {s : State} {m : MethodId} {args : Array Value} {below : List Frame} {meth : Method} {c : Code} {D : va_G} {cy : Nat → ClassId} {ad : Nat → Nat} {ba : Nat} {O : Int64} {S : teS}  {r0 : Nat} {x1 : Int32} {res : Int32} (hr0 : teK r0 = true) (X : teC wsX6_over RX6 cX6_over 6 (some .int) D cy ba p s m args meth c) : ∀ (n : Nat), ∀  (v2 : Int32) (v3 : Int32) (H : Heap) (locs : List Loc) (ls : Array Slot), teR D cy ad ba O S H → va_S (teA ba) s.heap H locs → lv_has ls 6 [(0, .ref (ad r0)), (1, .int x1), (2, .int v2), (3, .int v3)] → fX6_over_4 r0 x1 n S v2 v3 = some res → W p l e (headSpec wsX6_over rmX6_over).room s m args below meth c H locs 0 0 (MQ below (va_Qi (fun a (u : teS) => a = res ∧ u = S) (fun u t => teR D cy ad ba O u t.heap) (teA ba)) args s 0 0 (teA ba)) (F0 m 4 ls []) := by
  have hx := X.1
  have hb := X.2.1
  have hown := X.2.2.2.2.1
  intro n
  induction n with
  | zero =>
    intro v2 v3 H locs ls hR hS hl hf
    exact nomatch hf
  | succ n ih =>
    intro v2 v3 H locs ls hR hS hl hf
    unfold fX6_over_4 at hf
    refine lv_iload_n hx hb dX6_over_4 rfl (lv_at hl 3 rfl) ?_
    refine lv_aload_n hx hb dX6_over_5 rfl (lv_at hl 0 rfl) ?_
    refine lv_iconst (v := (0 : Int32)) hx hb dX6_over_6 (by decide) ?_
    obtain ⟨h_1, hf⟩ := chk_some hf
    refine ra_int X hR (r := r0) hr0 h_1 dX6_over_7 ?_
    refine lv_icmp_ge (tgt := 129) hx hb dX6_over_8 (by decide) (fun c_2 => ?_) (fun c_2 => ?_)
    · replace hf := ite_t c_2 hf
      refine lv_iload_n hx hb dX6_over_129 rfl (lv_at hl 2 rfl) ?_
      exact eI X hR hS (Option.some.inj hf) rfl dX6_over_130
    · replace hf := ite_f c_2 hf
      refine lv_iload_n hx hb dX6_over_11 rfl (lv_at hl 3 rfl) ?_
      refine lv_iconst (v := (1 : Int32)) hx hb dX6_over_12 (by decide) ?_
      refine lv_iadd hx hb dX6_over_13 ?_
      refine lv_istore (lv' := [(4, .int (v3 + (1 : Int32))), (0, .ref (ad r0)), (1, .int x1), (2, .int v2), (3, .int v3)]) hx hb dX6_over_14 hl (by decide) rfl (fun ls hl => ?_)
      exact bX6_over_16 (S := S) (r0 := r0) (x1 := x1) hr0 X ih 2000 (v2) (v3) ((v3 + (1 : Int32))) _ _ _ hR hS (lv_sub hl [1, 2, 3, 4, 0] rfl) hf
set_option maxRecDepth 100000 in
set_option maxHeartbeats 4000000 in
theorem bX6_over_0 {p : Program} {l : Launch} {e : Env} {s : State} {m : MethodId} {args : Array Value} {below : List Frame} {meth : Method} {c : Code} {D : va_G} {cy : Nat → ClassId} {ad : Nat → Nat} {ba : Nat} {O : Int64} {S : teS}  {r0 : Nat} {x1 : Int32} {res : Int32} (hr0 : teK r0 = true) (X : teC wsX6_over RX6 cX6_over 6 (some .int) D cy ba p s m args meth c) (H : Heap) (locs : List Loc) (ls : Array Slot) (hR : teR D cy ad ba O S H) (hS : va_S (teA ba) s.heap H locs) (hl : lv_has ls 6 [(0, .ref (ad r0)), (1, .int x1)]) (hf : fX6_over r0 x1 S = some res) : W p l e (headSpec wsX6_over rmX6_over).room s m args below meth c H locs 0 0 (MQ below (va_Qi (fun a (u : teS) => a = res ∧ u = S) (fun u t => teR D cy ad ba O u t.heap) (teA ba)) args s 0 0 (teA ba)) (F0 m 0 ls []) := by
  have hx := X.1
  have hb := X.2.1
  have hown := X.2.2.2.2.1
  unfold fX6_over at hf
  refine lv_iconst (v := (0 : Int32)) hx hb dX6_over_0 (by decide) ?_
  refine lv_istore_n (lv' := [(2, .int (0 : Int32)), (0, .ref (ad r0)), (1, .int x1)]) hx hb dX6_over_1 rfl hl (by decide) rfl (fun ls hl => ?_)
  refine lv_iconst (v := (0 : Int32)) hx hb dX6_over_2 (by decide) ?_
  refine lv_istore_n (lv' := [(3, .int (0 : Int32)), (2, .int (0 : Int32)), (0, .ref (ad r0)), (1, .int x1)]) hx hb dX6_over_3 rfl hl (by decide) rfl (fun ls hl => ?_)
  exact bX6_over_4 (S := S) (r0 := r0) (x1 := x1) hr0 X 2000 ((0 : Int32)) ((0 : Int32)) _ _ _ hR hS (lv_sub hl [2, 3, 1, 0] rfl) hf
theorem zcX6_over (l : Launch) (D : va_G) (cy : Nat → ClassId) (ad : Nat → Nat) (ba : Nat) (O : Int64) (S : teS) (r0 : Nat) (x1 : Int32) (hr0 : teK r0 = true) (res : Int32) (hf : fX6_over r0 x1 S = some res) : cI l yX6_over wsX6_over rmX6_over D cy ad ba O S [.ref (ad r0), .int x1] res S :=
  te_of (by decide +kernel) rfl (Nat.le_of_ble_eq_true rfl) (fun p e s m below meth c ls X hR hS hl => bX6_over_0 (S := S) (r0 := r0) (x1 := x1) hr0 X _ _ _ hR hS hl hf)
abbrev rmX6_creditsOf : Room := { frames := 1, cells := 0, slots := 0, locals := 20 }
theorem kdX6_creditsOf : yX6_creditsOf.cls = RX6 ∧ yX6_creditsOf.cls ≠ "java/lang/invoke/MethodHandle" ∧ yX6_creditsOf.cls ≠ "java/lang/invoke/VarHandle" ∧ (parseMethodDescriptor yX6_creditsOf.desc).map (fun d => d.parameters.length) = some 1 := by decide +kernel
set_option maxRecDepth 100000 in
set_option maxHeartbeats 4000000 in
theorem bX6_creditsOf_4 {p : Program} {l : Launch} {e : Env} {s : State} {m : MethodId} {args : Array Value} {below : List Frame} {meth : Method} {c : Code} {D : va_G} {cy : Nat → ClassId} {ad : Nat → Nat} {ba : Nat} {O : Int64} {S : teS}  {r0 : Nat} {res : Int32} (hr0 : teK r0 = true) (X : teC wsX6_creditsOf RX6 cX6_creditsOf 3 (some .int) D cy ba p s m args meth c) : ∀ (n : Nat), ∀  (v1 : Int32) (v2 : Int32) (H : Heap) (locs : List Loc) (ls : Array Slot), teR D cy ad ba O S H → va_S (teA ba) s.heap H locs → lv_has ls 3 [(0, .ref (ad r0)), (1, .int v1), (2, .int v2)] → fX6_creditsOf_4 r0 n S v1 v2 = some res → W p l e (headSpec wsX6_creditsOf rmX6_creditsOf).room s m args below meth c H locs 0 0 (MQ below (va_Qi (fun a (u : teS) => a = res ∧ u = S) (fun u t => teR D cy ad ba O u t.heap) (teA ba)) args s 0 0 (teA ba)) (F0 m 4 ls []) := by
  have hx := X.1
  have hb := X.2.1
  have hown := X.2.2.2.2.1
  intro n
  induction n with
  | zero =>
    intro v1 v2 H locs ls hR hS hl hf
    exact nomatch hf
  | succ n ih =>
    intro v1 v2 H locs ls hR hS hl hf
    unfold fX6_creditsOf_4 at hf
    refine lv_iload_n hx hb dX6_creditsOf_4 rfl (lv_at hl 2 rfl) ?_
    refine lv_aload_n hx hb dX6_creditsOf_5 rfl (lv_at hl 0 rfl) ?_
    refine lv_iconst (v := (0 : Int32)) hx hb dX6_creditsOf_6 (by decide) ?_
    obtain ⟨h_1, hf⟩ := chk_some hf
    refine ra_int X hR (r := r0) hr0 h_1 dX6_creditsOf_7 ?_
    refine lv_icmp_ge (tgt := 29) hx hb dX6_creditsOf_8 (by decide) (fun c_2 => ?_) (fun c_2 => ?_)
    · replace hf := ite_t c_2 hf
      refine lv_iload_n hx hb dX6_creditsOf_29 rfl (lv_at hl 1 rfl) ?_
      exact eI X hR hS (Option.some.inj hf) rfl dX6_creditsOf_30
    · replace hf := ite_f c_2 hf
      refine lv_iload_n hx hb dX6_creditsOf_11 rfl (lv_at hl 1 rfl) ?_
      refine lv_aload_n hx hb dX6_creditsOf_12 rfl (lv_at hl 0 rfl) ?_
      refine lv_iload_n hx hb dX6_creditsOf_13 rfl (lv_at hl 2 rfl) ?_
      obtain ⟨r_3, hq_4, hf⟩ := bd1_some hf
      refine kSi (As := [.int v2]) (rest := [.ref (ad r0), .int v1]) X hR hS (zcX6_at l D cy ad ba O S v2 _ hq_4) (va_cwS 1 X.2.2.2.2.2.1 gX6_creditsOf_X6_at rfl rfl rfl kdX6_at.2 ⟨(Nat.le_of_ble_eq_true rfl), (Nat.le_of_ble_eq_true rfl)⟩)  rfl rfl hl.1 (Nat.le_of_ble_eq_true rfl) ⟨(Nat.le_of_ble_eq_true rfl), (Nat.le_of_ble_eq_true rfl)⟩ dX6_creditsOf_14 (fun H locs hR hS => ?_)
      refine lv_bipush (v := (6 : Int32)) hx hb dX6_creditsOf_17 (by decide) ?_
      refine lv_iadd hx hb dX6_creditsOf_19 ?_
      obtain ⟨h_5, hf⟩ := chk_some hf
      refine ra_int X hR (r := r0) hr0 h_5 dX6_creditsOf_20 ?_
      refine lv_iadd hx hb dX6_creditsOf_21 ?_
      refine lv_istore_n (lv' := [(1, .int (v1 + (S r0 (r_3 + (6 : Int32)).toNatClampNeg))), (0, .ref (ad r0)), (2, .int v2)]) hx hb dX6_creditsOf_22 rfl hl (by decide) rfl (fun ls hl => ?_)
      refine lv_iinc (v := (v2 + (1 : Int32))) (lv' := [(2, .int (v2 + (1 : Int32))), (1, .int (v1 + (S r0 (r_3 + (6 : Int32)).toNatClampNeg))), (0, .ref (ad r0))]) hx hb dX6_creditsOf_23 hl (k := 2) rfl rfl (by decide) rfl (fun ls hl => ?_)
      refine lv_goto (tgt := 4) hx hb dX6_creditsOf_26 (by decide) ?_
      exact ih ((v1 + (S r0 (r_3 + (6 : Int32)).toNatClampNeg))) ((v2 + (1 : Int32))) _ _ _ hR hS (lv_sub hl [2, 1, 0] rfl) hf
set_option maxRecDepth 100000 in
set_option maxHeartbeats 4000000 in
theorem bX6_creditsOf_0 {p : Program} {l : Launch} {e : Env} {s : State} {m : MethodId} {args : Array Value} {below : List Frame} {meth : Method} {c : Code} {D : va_G} {cy : Nat → ClassId} {ad : Nat → Nat} {ba : Nat} {O : Int64} {S : teS}  {r0 : Nat} {res : Int32} (hr0 : teK r0 = true) (X : teC wsX6_creditsOf RX6 cX6_creditsOf 3 (some .int) D cy ba p s m args meth c) (H : Heap) (locs : List Loc) (ls : Array Slot) (hR : teR D cy ad ba O S H) (hS : va_S (teA ba) s.heap H locs) (hl : lv_has ls 3 [(0, .ref (ad r0))]) (hf : fX6_creditsOf r0 S = some res) : W p l e (headSpec wsX6_creditsOf rmX6_creditsOf).room s m args below meth c H locs 0 0 (MQ below (va_Qi (fun a (u : teS) => a = res ∧ u = S) (fun u t => teR D cy ad ba O u t.heap) (teA ba)) args s 0 0 (teA ba)) (F0 m 0 ls []) := by
  have hx := X.1
  have hb := X.2.1
  have hown := X.2.2.2.2.1
  unfold fX6_creditsOf at hf
  refine lv_iconst (v := (0 : Int32)) hx hb dX6_creditsOf_0 (by decide) ?_
  refine lv_istore_n (lv' := [(1, .int (0 : Int32)), (0, .ref (ad r0))]) hx hb dX6_creditsOf_1 rfl hl (by decide) rfl (fun ls hl => ?_)
  refine lv_iconst (v := (0 : Int32)) hx hb dX6_creditsOf_2 (by decide) ?_
  refine lv_istore_n (lv' := [(2, .int (0 : Int32)), (1, .int (0 : Int32)), (0, .ref (ad r0))]) hx hb dX6_creditsOf_3 rfl hl (by decide) rfl (fun ls hl => ?_)
  exact bX6_creditsOf_4 (S := S) (r0 := r0) hr0 X 2000 ((0 : Int32)) ((0 : Int32)) _ _ _ hR hS (lv_sub hl [2, 1, 0] rfl) hf
theorem zcX6_creditsOf (l : Launch) (D : va_G) (cy : Nat → ClassId) (ad : Nat → Nat) (ba : Nat) (O : Int64) (S : teS) (r0 : Nat) (hr0 : teK r0 = true) (res : Int32) (hf : fX6_creditsOf r0 S = some res) : cI l yX6_creditsOf wsX6_creditsOf rmX6_creditsOf D cy ad ba O S [.ref (ad r0)] res S :=
  te_of (by decide +kernel) rfl (Nat.le_of_ble_eq_true rfl) (fun p e s m below meth c ls X hR hS hl => bX6_creditsOf_0 (S := S) (r0 := r0) hr0 X _ _ _ hR hS hl hf)
abbrev rmX6_about : Room := { frames := 6, cells := 0, slots := 0, locals := 134 }
theorem kdX6_about : yX6_about.cls = RX6 ∧ yX6_about.cls ≠ "java/lang/invoke/MethodHandle" ∧ yX6_about.cls ≠ "java/lang/invoke/VarHandle" ∧ (parseMethodDescriptor yX6_about.desc).map (fun d => d.parameters.length) = some 1 := by decide +kernel
theorem wX6_about_138 : Cond.constantLong RX6 138 (6) ∈ wsX6_about := by decide +kernel
theorem wX6_about_16 : Cond.fieldLink RX6 16 "TandemExchangeModel" "now" "[I" ∈ wsX6_about := by decide +kernel
theorem iX6_about_6 : ∀ w ∈ wsX60, w ∈ wsX6_about := by decide +kernel
set_option maxRecDepth 100000 in
set_option maxHeartbeats 4000000 in
theorem bX6_about_18 {p : Program} {l : Launch} {e : Env} {s : State} {m : MethodId} {args : Array Value} {below : List Frame} {meth : Method} {c : Code} {D : va_G} {cy : Nat → ClassId} {ad : Nat → Nat} {ba : Nat} {O : Int64} {S : teS}  {x1 : Int32} {res : (Int32 × teS)} (X : teC wsX6_about RX6 cX6_about 2 (some .int) D cy ba p s m args meth c) : ∀ (S1 : teS) (y0 : Int32) (H : Heap) (locs : List Loc) (ls : Array Slot), teR D cy ad ba O S1 H → va_S (teA ba) s.heap H locs → lv_has ls 2 [(0, .ref (ad 369)), (1, .int x1)] → fX6_about_18 x1 S1 y0 = some res → W p l e (headSpec wsX6_about rmX6_about).room s m args below meth c H locs 0 0 (MQ below (va_Qi (fun a (u : teS) => a = res.1 ∧ u = res.2) (fun u t => teR D cy ad ba O u t.heap) (teA ba)) args s 0 0 (teA ba)) (F0 m 18 ls [.int y0, .ref (ad 369)]) := by
  have hx := X.1
  have hb := X.2.1
  have hown := X.2.2.2.2.1
  intro S1 y0 H locs ls hR hS hl hf
  unfold fX6_about_18 at hf
  obtain ⟨r_4, S2, hq_5, hf⟩ := bd2_some hf
  refine kVi (id := 369) (As := [.int y0]) (rest := []) X hR hS (zcX6_refused l D cy ad ba O S1 y0 _ _ hq_5) (cwV 1 X.2.2.2.2.2.1 gX6_about_X6_refused rfl rfl rfl kdX6_refused ⟨(Nat.le_of_ble_eq_true rfl), (Nat.le_of_ble_eq_true rfl)⟩) (by decide) rfl rfl rfl rfl hl.1 (Nat.le_of_ble_eq_true rfl) ⟨(Nat.le_of_ble_eq_true rfl), (Nat.le_of_ble_eq_true rfl)⟩ dX6_about_18 (fun H locs hR hS => ?_)
  refine lv_if_eq (tgt := 26) hx hb dX6_about_21 (by decide) (fun c_6 => ?_) (fun c_6 => ?_)
  · replace hf := ite_t c_6 hf
    refine lv_iload_n hx hb dX6_about_26 rfl (lv_at hl 1 rfl) ?_
    by_cases c_7 : x1 = (0 : Int32)
    · replace hf := ite_t c_7 hf
      refine lv_tableIn (off := 37) (tgt := 64) hx hb dX6_about_27 (by rw [c_7]; decide) (by rw [c_7]; decide) (by rw [c_7]; decide) (by decide) ?_
      refine lv_aload_n hx hb dX6_about_64 rfl (lv_at hl 0 rfl) ?_
      refine rg_6_5 X hR iX6_about_6 wX6_about_16 dX6_about_65 ?_
      refine lv_iconst (v := (0 : Int32)) hx hb dX6_about_68 (by decide) ?_
      obtain ⟨h_8, hf⟩ := chk_some hf
      refine ra_int X hR (r := 372) rfl h_8 dX6_about_69 ?_
      exact eI X hR hS (congrArg Prod.fst (Option.some.inj hf)) (congrArg Prod.snd (Option.some.inj hf)) dX6_about_70
    replace hf := ite_f c_7 hf
    by_cases c_9 : x1 = (1 : Int32)
    · replace hf := ite_t c_9 hf
      refine lv_tableIn (off := 44) (tgt := 71) hx hb dX6_about_27 (by rw [c_9]; decide) (by rw [c_9]; decide) (by rw [c_9]; decide) (by decide) ?_
      refine lv_aload_n hx hb dX6_about_71 rfl (lv_at hl 0 rfl) ?_
      refine rg_6_5 X hR iX6_about_6 wX6_about_16 dX6_about_72 ?_
      refine lv_iconst (v := (0 : Int32)) hx hb dX6_about_75 (by decide) ?_
      obtain ⟨r_10, hq_11, hf⟩ := bd1_some hf
      refine kSi (As := [.ref (ad 372), .int (0 : Int32)]) (rest := []) X hR hS (zcX6_over l D cy ad ba O S2 372 (0 : Int32) rfl _ hq_11) (va_cwS 2 X.2.2.2.2.2.1 gX6_about_X6_over rfl rfl rfl kdX6_over.2 ⟨(Nat.le_of_ble_eq_true rfl), (Nat.le_of_ble_eq_true rfl)⟩)  rfl rfl hl.1 (Nat.le_of_ble_eq_true rfl) ⟨(Nat.le_of_ble_eq_true rfl), (Nat.le_of_ble_eq_true rfl)⟩ dX6_about_76 (fun H locs hR hS => ?_)
      exact eI X hR hS (congrArg Prod.fst (Option.some.inj hf)) (congrArg Prod.snd (Option.some.inj hf)) dX6_about_79
    replace hf := ite_f c_9 hf
    by_cases c_12 : x1 = (2 : Int32)
    · replace hf := ite_t c_12 hf
      refine lv_tableIn (off := 53) (tgt := 80) hx hb dX6_about_27 (by rw [c_12]; decide) (by rw [c_12]; decide) (by rw [c_12]; decide) (by decide) ?_
      refine lv_aload_n hx hb dX6_about_80 rfl (lv_at hl 0 rfl) ?_
      refine rg_6_5 X hR iX6_about_6 wX6_about_16 dX6_about_81 ?_
      refine lv_iconst (v := (1 : Int32)) hx hb dX6_about_84 (by decide) ?_
      obtain ⟨h_13, hf⟩ := chk_some hf
      refine ra_int X hR (r := 372) rfl h_13 dX6_about_85 ?_
      exact eI X hR hS (congrArg Prod.fst (Option.some.inj hf)) (congrArg Prod.snd (Option.some.inj hf)) dX6_about_86
    replace hf := ite_f c_12 hf
    by_cases c_14 : x1 = (3 : Int32)
    · replace hf := ite_t c_14 hf
      refine lv_tableIn (off := 60) (tgt := 87) hx hb dX6_about_27 (by rw [c_14]; decide) (by rw [c_14]; decide) (by rw [c_14]; decide) (by decide) ?_
      refine lv_aload_n hx hb dX6_about_87 rfl (lv_at hl 0 rfl) ?_
      refine rg_6_5 X hR iX6_about_6 wX6_about_16 dX6_about_88 ?_
      refine lv_iconst (v := (1 : Int32)) hx hb dX6_about_91 (by decide) ?_
      obtain ⟨r_15, hq_16, hf⟩ := bd1_some hf
      refine kSi (As := [.ref (ad 372), .int (1 : Int32)]) (rest := []) X hR hS (zcX6_over l D cy ad ba O S2 372 (1 : Int32) rfl _ hq_16) (va_cwS 2 X.2.2.2.2.2.1 gX6_about_X6_over rfl rfl rfl kdX6_over.2 ⟨(Nat.le_of_ble_eq_true rfl), (Nat.le_of_ble_eq_true rfl)⟩)  rfl rfl hl.1 (Nat.le_of_ble_eq_true rfl) ⟨(Nat.le_of_ble_eq_true rfl), (Nat.le_of_ble_eq_true rfl)⟩ dX6_about_92 (fun H locs hR hS => ?_)
      exact eI X hR hS (congrArg Prod.fst (Option.some.inj hf)) (congrArg Prod.snd (Option.some.inj hf)) dX6_about_95
    replace hf := ite_f c_14 hf
    by_cases c_17 : x1 = (4 : Int32)
    · replace hf := ite_t c_17 hf
      refine lv_tableIn (off := 69) (tgt := 96) hx hb dX6_about_27 (by rw [c_17]; decide) (by rw [c_17]; decide) (by rw [c_17]; decide) (by decide) ?_
      refine lv_aload_n hx hb dX6_about_96 rfl (lv_at hl 0 rfl) ?_
      refine rg_6_5 X hR iX6_about_6 wX6_about_16 dX6_about_97 ?_
      refine lv_iconst (v := (2 : Int32)) hx hb dX6_about_100 (by decide) ?_
      obtain ⟨r_18, hq_19, hf⟩ := bd1_some hf
      refine kSi (As := [.ref (ad 372), .int (2 : Int32)]) (rest := []) X hR hS (zcX6_over l D cy ad ba O S2 372 (2 : Int32) rfl _ hq_19) (va_cwS 2 X.2.2.2.2.2.1 gX6_about_X6_over rfl rfl rfl kdX6_over.2 ⟨(Nat.le_of_ble_eq_true rfl), (Nat.le_of_ble_eq_true rfl)⟩)  rfl rfl hl.1 (Nat.le_of_ble_eq_true rfl) ⟨(Nat.le_of_ble_eq_true rfl), (Nat.le_of_ble_eq_true rfl)⟩ dX6_about_101 (fun H locs hR hS => ?_)
      exact eI X hR hS (congrArg Prod.fst (Option.some.inj hf)) (congrArg Prod.snd (Option.some.inj hf)) dX6_about_104
    replace hf := ite_f c_17 hf
    by_cases c_20 : x1 = (5 : Int32)
    · replace hf := ite_t c_20 hf
      refine lv_tableIn (off := 78) (tgt := 105) hx hb dX6_about_27 (by rw [c_20]; decide) (by rw [c_20]; decide) (by rw [c_20]; decide) (by decide) ?_
      refine lv_aload_n hx hb dX6_about_105 rfl (lv_at hl 0 rfl) ?_
      refine rg_6_5 X hR iX6_about_6 wX6_about_16 dX6_about_106 ?_
      obtain ⟨r_21, hq_22, hf⟩ := bd1_some hf
      refine kSi (As := [.ref (ad 372)]) (rest := []) X hR hS (zcX6_creditsOf l D cy ad ba O S2 372 rfl _ hq_22) (va_cwS 1 X.2.2.2.2.2.1 gX6_about_X6_creditsOf rfl rfl rfl kdX6_creditsOf.2 ⟨(Nat.le_of_ble_eq_true rfl), (Nat.le_of_ble_eq_true rfl)⟩)  rfl rfl hl.1 (Nat.le_of_ble_eq_true rfl) ⟨(Nat.le_of_ble_eq_true rfl), (Nat.le_of_ble_eq_true rfl)⟩ dX6_about_109 (fun H locs hR hS => ?_)
      exact eI X hR hS (congrArg Prod.fst (Option.some.inj hf)) (congrArg Prod.snd (Option.some.inj hf)) dX6_about_112
    replace hf := ite_f c_20 hf
    refine lv_tableOut (tgt := 113) hx hb dX6_about_27 (te_sw (fun k h1 h2 => ?_)) (by decide) ?_
    · have hk : k = 0 ∨ k = 1 ∨ k = 2 ∨ k = 3 ∨ k = 4 ∨ k = 5 := by omega
      rcases hk with rfl | rfl | rfl | rfl | rfl | rfl
      · exact lv_neT c_7 (by decide)
      · exact lv_neT c_9 (by decide)
      · exact lv_neT c_12 (by decide)
      · exact lv_neT c_14 (by decide)
      · exact lv_neT c_17 (by decide)
      · exact lv_neT c_20 (by decide)
    refine lv_aload_n hx hb dX6_about_113 rfl (lv_at hl 0 rfl) ?_
    refine rg_6_5 X hR iX6_about_6 wX6_about_16 dX6_about_114 ?_
    refine lv_iconst (v := (3 : Int32)) hx hb dX6_about_117 (by decide) ?_
    obtain ⟨r_23, hq_24, hf⟩ := bd1_some hf
    refine kSi (As := [.ref (ad 372), .int (3 : Int32)]) (rest := []) X hR hS (zcX6_over l D cy ad ba O S2 372 (3 : Int32) rfl _ hq_24) (va_cwS 2 X.2.2.2.2.2.1 gX6_about_X6_over rfl rfl rfl kdX6_over.2 ⟨(Nat.le_of_ble_eq_true rfl), (Nat.le_of_ble_eq_true rfl)⟩)  rfl rfl hl.1 (Nat.le_of_ble_eq_true rfl) ⟨(Nat.le_of_ble_eq_true rfl), (Nat.le_of_ble_eq_true rfl)⟩ dX6_about_118 (fun H locs hR hS => ?_)
    exact eI X hR hS (congrArg Prod.fst (Option.some.inj hf)) (congrArg Prod.snd (Option.some.inj hf)) dX6_about_121
  · replace hf := ite_f c_6 hf
    refine lv_iconst (v := (0 : Int32)) hx hb dX6_about_24 (by decide) ?_
    exact eI X hR hS (congrArg Prod.fst (Option.some.inj hf)) (congrArg Prod.snd (Option.some.inj hf)) dX6_about_25
set_option maxRecDepth 100000 in
set_option maxHeartbeats 4000000 in
theorem bX6_about_0 {p : Program} {l : Launch} {e : Env} {s : State} {m : MethodId} {args : Array Value} {below : List Frame} {meth : Method} {c : Code} {D : va_G} {cy : Nat → ClassId} {ad : Nat → Nat} {ba : Nat} {O : Int64} {S : teS}  {x1 : Int32} {res : (Int32 × teS)} (X : teC wsX6_about RX6 cX6_about 2 (some .int) D cy ba p s m args meth c) (H : Heap) (locs : List Loc) (ls : Array Slot) (hR : teR D cy ad ba O S H) (hS : va_S (teA ba) s.heap H locs) (hl : lv_has ls 2 [(0, .ref (ad 369)), (1, .int x1)]) (hf : fX6_about x1 S = some res) : W p l e (headSpec wsX6_about rmX6_about).room s m args below meth c H locs 0 0 (MQ below (va_Qi (fun a (u : teS) => a = res.1 ∧ u = res.2) (fun u t => teR D cy ad ba O u t.heap) (teA ba)) args s 0 0 (teA ba)) (F0 m 0 ls []) := by
  have hx := X.1
  have hb := X.2.1
  have hown := X.2.2.2.2.1
  unfold fX6_about at hf
  refine lv_aload_n hx hb dX6_about_0 rfl (lv_at hl 0 rfl) ?_
  refine lv_iload_n hx hb dX6_about_1 rfl (lv_at hl 1 rfl) ?_
  refine lv_i2l hx hb dX6_about_2 rfl ?_
  refine lv_lconst (v := (0 : Int64)) hx hb dX6_about_3 (by decide) ?_
  refine lv_ldc2 (v := (6 : Int64)) hx hb hown (X.2.2.2.2.2.1 _ wX6_about_138) dX6_about_4 ?_
  obtain ⟨r_1, hq_2, hf⟩ := bd1_some hf
  refine kSi (As := [.long (x1).toInt64, .long (0 : Int64), .long (6 : Int64)]) (rest := [.ref (ad 369)]) X hR hS (zcX6_in l D cy ad ba O S ((x1).toInt64) (0 : Int64) (6 : Int64) _ hq_2) (va_cwS 3 X.2.2.2.2.2.1 gX6_about_X6_in rfl rfl rfl kdX6_in.2 ⟨(Nat.le_of_ble_eq_true rfl), (Nat.le_of_ble_eq_true rfl)⟩)  rfl rfl hl.1 (Nat.le_of_ble_eq_true rfl) ⟨(Nat.le_of_ble_eq_true rfl), (Nat.le_of_ble_eq_true rfl)⟩ dX6_about_7 (fun H locs hR hS => ?_)
  refine lv_if_eq (tgt := 17) hx hb dX6_about_10 (by decide) (fun c_3 => ?_) (fun c_3 => ?_)
  · replace hf := ite_t c_3 hf
    refine lv_iconst (v := (1 : Int32)) hx hb dX6_about_17 (by decide) ?_
    exact bX6_about_18 (S := S) (x1 := x1) X S ((1 : Int32)) _ _ _ hR hS (lv_sub hl [0, 1] rfl) hf
  · replace hf := ite_f c_3 hf
    refine lv_iconst (v := (0 : Int32)) hx hb dX6_about_13 (by decide) ?_
    refine lv_goto (tgt := 18) hx hb dX6_about_14 (by decide) ?_
    exact bX6_about_18 (S := S) (x1 := x1) X S ((0 : Int32)) _ _ _ hR hS (lv_sub hl [0, 1] rfl) hf
theorem zcX6_about (l : Launch) (D : va_G) (cy : Nat → ClassId) (ad : Nat → Nat) (ba : Nat) (O : Int64) (S : teS) (x1 : Int32) (r : Int32) (S1 : teS) (hf : fX6_about x1 S = some (r, S1)) : cI l yX6_about wsX6_about rmX6_about D cy ad ba O S [.ref (ad 369), .int x1] r S1 :=
  te_of (by decide) rfl (Nat.le_of_ble_eq_true rfl) (fun p e s m below meth c ls X hR hS hl => bX6_about_0 (res := (r, S1)) (S := S) (x1 := x1) X _ _ _ hR hS hl hf)
abbrev rmX6_detail : Room := { frames := 3, cells := 0, slots := 0, locals := 65 }
theorem kdX6_detail : yX6_detail.cls = RX6 ∧ yX6_detail.cls ≠ "java/lang/invoke/MethodHandle" ∧ yX6_detail.cls ≠ "java/lang/invoke/VarHandle" ∧ (parseMethodDescriptor yX6_detail.desc).map (fun d => d.parameters.length) = some 3 := by decide +kernel
set_option maxRecDepth 100000 in
set_option maxHeartbeats 4000000 in
theorem bX6_detail_50 {p : Program} {l : Launch} {e : Env} {s : State} {m : MethodId} {args : Array Value} {below : List Frame} {meth : Method} {c : Code} {D : va_G} {cy : Nat → ClassId} {ad : Nat → Nat} {ba : Nat} {O : Int64} {S : teS}  {r0 : Nat} {x1 : Int32} {x2 : Int32} {res : Int32} (hr0 : teK r0 = true) (X : teC wsX6_detail RX6 cX6_detail 5 (some .int) D cy ba p s m args meth c) : ∀ (n : Nat), ∀  (v3 : Int32) (v4 : Int32) (H : Heap) (locs : List Loc) (ls : Array Slot), teR D cy ad ba O S H → va_S (teA ba) s.heap H locs → lv_has ls 5 [(0, .ref (ad r0)), (1, .int x1), (3, .int v3), (4, .int v4)] → fX6_detail_50 r0 x1 x2 n S v3 v4 = some res → W p l e (headSpec wsX6_detail rmX6_detail).room s m args below meth c H locs 0 0 (MQ below (va_Qi (fun a (u : teS) => a = res ∧ u = S) (fun u t => teR D cy ad ba O u t.heap) (teA ba)) args s 0 0 (teA ba)) (F0 m 50 ls []) := by
  have hx := X.1
  have hb := X.2.1
  have hown := X.2.2.2.2.1
  intro n
  induction n with
  | zero =>
    intro v3 v4 H locs ls hR hS hl hf
    exact nomatch hf
  | succ n ih =>
    intro v3 v4 H locs ls hR hS hl hf
    unfold fX6_detail_50 at hf
    refine lv_iload hx hb dX6_detail_50 (lv_at hl 3 rfl) ?_
    refine lv_aload_n hx hb dX6_detail_52 rfl (lv_at hl 0 rfl) ?_
    refine lv_iconst (v := (0 : Int32)) hx hb dX6_detail_53 (by decide) ?_
    obtain ⟨h_12, hf⟩ := chk_some hf
    refine ra_int X hR (r := r0) hr0 h_12 dX6_detail_54 ?_
    refine lv_icmp_ge (tgt := 82) hx hb dX6_detail_55 (by decide) (fun c_13 => ?_) (fun c_13 => ?_)
    · replace hf := ite_t c_13 hf
      refine lv_iload_n hx hb dX6_detail_82 rfl (lv_at hl 2 rfl) ?_
      exact eI X hR hS (Option.some.inj hf) rfl dX6_detail_83
    · replace hf := ite_f c_13 hf
      refine lv_iload_n hx hb dX6_detail_58 rfl (lv_at hl 2 rfl) ?_
      refine lv_aload_n hx hb dX6_detail_59 rfl (lv_at hl 0 rfl) ?_
      refine lv_iload_n hx hb dX6_detail_60 rfl (lv_at hl 1 rfl) ?_
      refine lv_iload hx hb dX6_detail_61 (lv_at hl 3 rfl) ?_
      obtain ⟨r_14, hq_15, hf⟩ := bd1_some hf
      refine kSi (As := [.ref (ad r0), .int x1, .int v4]) (rest := [.int v3]) X hR hS (zcX6_fit l D cy ad ba O S r0 x1 v4 hr0 _ hq_15) (va_cwS 3 X.2.2.2.2.2.1 gX6_detail_X6_fit rfl rfl rfl kdX6_fit.2 ⟨(Nat.le_of_ble_eq_true rfl), (Nat.le_of_ble_eq_true rfl)⟩)  rfl rfl hl.1 (Nat.le_of_ble_eq_true rfl) ⟨(Nat.le_of_ble_eq_true rfl), (Nat.le_of_ble_eq_true rfl)⟩ dX6_detail_63 (fun H locs hR hS => ?_)
      refine lv_if_eq (tgt := 73) hx hb dX6_detail_66 (by decide) (fun c_16 => ?_) (fun c_16 => ?_)
      · replace hf := ite_t c_16 hf
        refine lv_iconst (v := (0 : Int32)) hx hb dX6_detail_73 (by decide) ?_
        refine lv_iadd hx hb dX6_detail_74 ?_
        refine lv_istore_n (lv' := [(3, .int (v3 + (0 : Int32))), (0, .ref (ad r0)), (1, .int x1), (4, .int v4)]) hx hb dX6_detail_75 rfl hl (by decide) rfl (fun ls hl => ?_)
        refine lv_iinc (v := (v4 + (1 : Int32))) (lv' := [(4, .int (v4 + (1 : Int32))), (3, .int (v3 + (0 : Int32))), (0, .ref (ad r0)), (1, .int x1)]) hx hb dX6_detail_76 hl (k := 3) rfl rfl (by decide) rfl (fun ls hl => ?_)
        refine lv_goto (tgt := 50) hx hb dX6_detail_79 (by decide) ?_
        exact ih ((v3 + (0 : Int32))) ((v4 + (1 : Int32))) _ _ _ hR hS (lv_sub hl [2, 3, 1, 0] rfl) hf
      · replace hf := ite_f c_16 hf
        refine lv_iconst (v := (1 : Int32)) hx hb dX6_detail_69 (by decide) ?_
        refine lv_goto (tgt := 74) hx hb dX6_detail_70 (by decide) ?_
        refine lv_iadd hx hb dX6_detail_74 ?_
        refine lv_istore_n (lv' := [(3, .int (v3 + (1 : Int32))), (0, .ref (ad r0)), (1, .int x1), (4, .int v4)]) hx hb dX6_detail_75 rfl hl (by decide) rfl (fun ls hl => ?_)
        refine lv_iinc (v := (v4 + (1 : Int32))) (lv' := [(4, .int (v4 + (1 : Int32))), (3, .int (v3 + (1 : Int32))), (0, .ref (ad r0)), (1, .int x1)]) hx hb dX6_detail_76 hl (k := 3) rfl rfl (by decide) rfl (fun ls hl => ?_)
        refine lv_goto (tgt := 50) hx hb dX6_detail_79 (by decide) ?_
        exact ih ((v3 + (1 : Int32))) ((v4 + (1 : Int32))) _ _ _ hR hS (lv_sub hl [2, 3, 1, 0] rfl) hf
set_option maxRecDepth 100000 in
set_option maxHeartbeats 4000000 in
theorem bX6_detail_0 {p : Program} {l : Launch} {e : Env} {s : State} {m : MethodId} {args : Array Value} {below : List Frame} {meth : Method} {c : Code} {D : va_G} {cy : Nat → ClassId} {ad : Nat → Nat} {ba : Nat} {O : Int64} {S : teS}  {r0 : Nat} {x1 : Int32} {x2 : Int32} {res : Int32} (hr0 : teK r0 = true) (X : teC wsX6_detail RX6 cX6_detail 5 (some .int) D cy ba p s m args meth c) (H : Heap) (locs : List Loc) (ls : Array Slot) (hR : teR D cy ad ba O S H) (hS : va_S (teA ba) s.heap H locs) (hl : lv_has ls 5 [(0, .ref (ad r0)), (1, .int x1), (2, .int x2)]) (hf : fX6_detail r0 x1 x2 S = some res) : W p l e (headSpec wsX6_detail rmX6_detail).room s m args below meth c H locs 0 0 (MQ below (va_Qi (fun a (u : teS) => a = res ∧ u = S) (fun u t => teR D cy ad ba O u t.heap) (teA ba)) args s 0 0 (teA ba)) (F0 m 0 ls []) := by
  have hx := X.1
  have hb := X.2.1
  have hown := X.2.2.2.2.1
  unfold fX6_detail at hf
  refine lv_iload_n hx hb dX6_detail_0 rfl (lv_at hl 2 rfl) ?_
  refine lv_bipush (v := (9 : Int32)) hx hb dX6_detail_1 (by decide) ?_
  refine lv_icmp_ne (tgt := 30) hx hb dX6_detail_3 (by decide) (fun c_1 => ?_) (fun c_1 => ?_)
  · replace hf := ite_f c_1 hf
    refine lv_iload_n hx hb dX6_detail_30 rfl (lv_at hl 2 rfl) ?_
    refine lv_bipush (v := (9 : Int32)) hx hb dX6_detail_31 (by decide) ?_
    refine lv_icmp_ge (tgt := 45) hx hb dX6_detail_33 (by decide) (fun c_2 => ?_) (fun c_2 => ?_)
    · replace hf := ite_t c_2 hf
      refine lv_iconst (v := (0 : Int32)) hx hb dX6_detail_45 (by decide) ?_
      refine lv_istore_n (lv' := [(3, .int (0 : Int32)), (0, .ref (ad r0)), (1, .int x1), (2, .int x2)]) hx hb dX6_detail_46 rfl hl (by decide) rfl (fun ls hl => ?_)
      refine lv_iconst (v := (0 : Int32)) hx hb dX6_detail_47 (by decide) ?_
      refine lv_istore (lv' := [(4, .int (0 : Int32)), (3, .int (0 : Int32)), (0, .ref (ad r0)), (1, .int x1), (2, .int x2)]) hx hb dX6_detail_48 hl (by decide) rfl (fun ls hl => ?_)
      exact bX6_detail_50 (S := S) (r0 := r0) (x1 := x1) (x2 := x2) hr0 X 2000 ((0 : Int32)) ((0 : Int32)) _ _ _ hR hS (lv_sub hl [2, 3, 1, 0] rfl) hf
    · replace hf := ite_f c_2 hf
      refine lv_aload_n hx hb dX6_detail_36 rfl (lv_at hl 0 rfl) ?_
      refine lv_iload_n hx hb dX6_detail_37 rfl (lv_at hl 1 rfl) ?_
      obtain ⟨r_3, hq_4, hf⟩ := bd1_some hf
      refine kSi (As := [.int x1]) (rest := [.ref (ad r0)]) X hR hS (zcX6_at l D cy ad ba O S x1 _ hq_4) (va_cwS 1 X.2.2.2.2.2.1 gX6_detail_X6_at rfl rfl rfl kdX6_at.2 ⟨(Nat.le_of_ble_eq_true rfl), (Nat.le_of_ble_eq_true rfl)⟩)  rfl rfl hl.1 (Nat.le_of_ble_eq_true rfl) ⟨(Nat.le_of_ble_eq_true rfl), (Nat.le_of_ble_eq_true rfl)⟩ dX6_detail_38 (fun H locs hR hS => ?_)
      refine lv_iload_n hx hb dX6_detail_41 rfl (lv_at hl 2 rfl) ?_
      refine lv_iadd hx hb dX6_detail_42 ?_
      obtain ⟨h_5, hf⟩ := chk_some hf
      refine ra_int X hR (r := r0) hr0 h_5 dX6_detail_43 ?_
      exact eI X hR hS (Option.some.inj hf) rfl dX6_detail_44
  · replace hf := ite_t c_1 hf
    refine lv_aload_n hx hb dX6_detail_6 rfl (lv_at hl 0 rfl) ?_
    refine lv_iload_n hx hb dX6_detail_7 rfl (lv_at hl 1 rfl) ?_
    obtain ⟨r_6, hq_7, hf⟩ := bd1_some hf
    refine kSi (As := [.ref (ad r0), .int x1]) (rest := []) X hR hS (zcX6_isFree l D cy ad ba O S r0 x1 hr0 _ hq_7) (va_cwS 2 X.2.2.2.2.2.1 gX6_detail_X6_isFree rfl rfl rfl kdX6_isFree.2 ⟨(Nat.le_of_ble_eq_true rfl), (Nat.le_of_ble_eq_true rfl)⟩)  rfl rfl hl.1 (Nat.le_of_ble_eq_true rfl) ⟨(Nat.le_of_ble_eq_true rfl), (Nat.le_of_ble_eq_true rfl)⟩ dX6_detail_8 (fun H locs hR hS => ?_)
    refine lv_if_eq (tgt := 20) hx hb dX6_detail_11 (by decide) (fun c_8 => ?_) (fun c_8 => ?_)
    · replace hf := ite_t c_8 hf
      refine lv_aload_n hx hb dX6_detail_20 rfl (lv_at hl 0 rfl) ?_
      refine lv_iload_n hx hb dX6_detail_21 rfl (lv_at hl 1 rfl) ?_
      obtain ⟨r_9, hq_10, hf⟩ := bd1_some hf
      refine kSi (As := [.int x1]) (rest := [.ref (ad r0)]) X hR hS (zcX6_at l D cy ad ba O S x1 _ hq_10) (va_cwS 1 X.2.2.2.2.2.1 gX6_detail_X6_at rfl rfl rfl kdX6_at.2 ⟨(Nat.le_of_ble_eq_true rfl), (Nat.le_of_ble_eq_true rfl)⟩)  rfl rfl hl.1 (Nat.le_of_ble_eq_true rfl) ⟨(Nat.le_of_ble_eq_true rfl), (Nat.le_of_ble_eq_true rfl)⟩ dX6_detail_22 (fun H locs hR hS => ?_)
      refine lv_bipush (v := (9 : Int32)) hx hb dX6_detail_25 (by decide) ?_
      refine lv_iadd hx hb dX6_detail_27 ?_
      obtain ⟨h_11, hf⟩ := chk_some hf
      refine ra_int X hR (r := r0) hr0 h_11 dX6_detail_28 ?_
      exact eI X hR hS (Option.some.inj hf) rfl dX6_detail_29
    · replace hf := ite_f c_8 hf
      refine lv_sipush (v := (-9999 : Int32)) hx hb dX6_detail_14 (by decide) ?_
      refine lv_goto (tgt := 29) hx hb dX6_detail_17 (by decide) ?_
      exact eI X hR hS (Option.some.inj hf) rfl dX6_detail_29
theorem zcX6_detail (l : Launch) (D : va_G) (cy : Nat → ClassId) (ad : Nat → Nat) (ba : Nat) (O : Int64) (S : teS) (r0 : Nat) (x1 : Int32) (x2 : Int32) (hr0 : teK r0 = true) (res : Int32) (hf : fX6_detail r0 x1 x2 S = some res) : cI l yX6_detail wsX6_detail rmX6_detail D cy ad ba O S [.ref (ad r0), .int x1, .int x2] res S :=
  te_of (by decide +kernel) rfl (Nat.le_of_ble_eq_true rfl) (fun p e s m below meth c ls X hR hS hl => bX6_detail_0 (S := S) (r0 := r0) (x1 := x1) (x2 := x2) hr0 X _ _ _ hR hS hl hf)
abbrev rmX6_member : Room := { frames := 4, cells := 0, slots := 0, locals := 89 }
theorem kdX6_member : yX6_member.cls = RX6 ∧ yX6_member.cls ≠ "java/lang/invoke/MethodHandle" ∧ yX6_member.cls ≠ "java/lang/invoke/VarHandle" ∧ (parseMethodDescriptor yX6_member.desc).map (fun d => d.parameters.length) = some 2 := by decide +kernel
theorem wX6_member_16 : Cond.fieldLink RX6 16 "TandemExchangeModel" "now" "[I" ∈ wsX6_member := by decide +kernel
theorem iX6_member_6 : ∀ w ∈ wsX60, w ∈ wsX6_member := by decide +kernel
theorem wX6_member_150 : Cond.constantLong RX6 150 (10) ∈ wsX6_member := by decide +kernel
set_option maxRecDepth 100000 in
set_option maxHeartbeats 4000000 in
theorem bX6_member_33 {p : Program} {l : Launch} {e : Env} {s : State} {m : MethodId} {args : Array Value} {below : List Frame} {meth : Method} {c : Code} {D : va_G} {cy : Nat → ClassId} {ad : Nat → Nat} {ba : Nat} {O : Int64} {S : teS}  {x1 : Int32} {x2 : Int32} {res : (Int32 × teS)} (X : teC wsX6_member RX6 cX6_member 3 (some .int) D cy ba p s m args meth c) : ∀ (S1 : teS) (y0 : Int32) (H : Heap) (locs : List Loc) (ls : Array Slot), teR D cy ad ba O S1 H → va_S (teA ba) s.heap H locs → lv_has ls 3 [(0, .ref (ad 369)), (1, .int x1), (2, .int x2)] → fX6_member_33 x1 x2 S1 y0 = some res → W p l e (headSpec wsX6_member rmX6_member).room s m args below meth c H locs 0 0 (MQ below (va_Qi (fun a (u : teS) => a = res.1 ∧ u = res.2) (fun u t => teR D cy ad ba O u t.heap) (teA ba)) args s 0 0 (teA ba)) (F0 m 33 ls [.int y0, .ref (ad 369)]) := by
  have hx := X.1
  have hb := X.2.1
  have hown := X.2.2.2.2.1
  intro S1 y0 H locs ls hR hS hl hf
  unfold fX6_member_33 at hf
  obtain ⟨r_7, S2, hq_8, hf⟩ := bd2_some hf
  refine kVi (id := 369) (As := [.int y0]) (rest := []) X hR hS (zcX6_refused l D cy ad ba O S1 y0 _ _ hq_8) (cwV 1 X.2.2.2.2.2.1 gX6_member_X6_refused rfl rfl rfl kdX6_refused ⟨(Nat.le_of_ble_eq_true rfl), (Nat.le_of_ble_eq_true rfl)⟩) (by decide) rfl rfl rfl rfl hl.1 (Nat.le_of_ble_eq_true rfl) ⟨(Nat.le_of_ble_eq_true rfl), (Nat.le_of_ble_eq_true rfl)⟩ dX6_member_33 (fun H locs hR hS => ?_)
  refine lv_if_eq (tgt := 43) hx hb dX6_member_36 (by decide) (fun c_9 => ?_) (fun c_9 => ?_)
  · replace hf := ite_t c_9 hf
    refine lv_aload_n hx hb dX6_member_43 rfl (lv_at hl 0 rfl) ?_
    refine rg_6_5 X hR iX6_member_6 wX6_member_16 dX6_member_44 ?_
    refine lv_iload_n hx hb dX6_member_47 rfl (lv_at hl 1 rfl) ?_
    refine lv_iload_n hx hb dX6_member_48 rfl (lv_at hl 2 rfl) ?_
    obtain ⟨r_10, hq_11, hf⟩ := bd1_some hf
    refine kSi (As := [.ref (ad 372), .int x1, .int x2]) (rest := []) X hR hS (zcX6_detail l D cy ad ba O S2 372 x1 x2 rfl _ hq_11) (va_cwS 3 X.2.2.2.2.2.1 gX6_member_X6_detail rfl rfl rfl kdX6_detail.2 ⟨(Nat.le_of_ble_eq_true rfl), (Nat.le_of_ble_eq_true rfl)⟩)  rfl rfl hl.1 (Nat.le_of_ble_eq_true rfl) ⟨(Nat.le_of_ble_eq_true rfl), (Nat.le_of_ble_eq_true rfl)⟩ dX6_member_49 (fun H locs hR hS => ?_)
    exact eI X hR hS (congrArg Prod.fst (Option.some.inj hf)) (congrArg Prod.snd (Option.some.inj hf)) dX6_member_52
  · replace hf := ite_f c_9 hf
    refine lv_iconst (v := (0 : Int32)) hx hb dX6_member_39 (by decide) ?_
    refine lv_goto (tgt := 52) hx hb dX6_member_40 (by decide) ?_
    exact eI X hR hS (congrArg Prod.fst (Option.some.inj hf)) (congrArg Prod.snd (Option.some.inj hf)) dX6_member_52
set_option maxRecDepth 100000 in
set_option maxHeartbeats 4000000 in
theorem bX6_member_0 {p : Program} {l : Launch} {e : Env} {s : State} {m : MethodId} {args : Array Value} {below : List Frame} {meth : Method} {c : Code} {D : va_G} {cy : Nat → ClassId} {ad : Nat → Nat} {ba : Nat} {O : Int64} {S : teS}  {x1 : Int32} {x2 : Int32} {res : (Int32 × teS)} (X : teC wsX6_member RX6 cX6_member 3 (some .int) D cy ba p s m args meth c) (H : Heap) (locs : List Loc) (ls : Array Slot) (hR : teR D cy ad ba O S H) (hS : va_S (teA ba) s.heap H locs) (hl : lv_has ls 3 [(0, .ref (ad 369)), (1, .int x1), (2, .int x2)]) (hf : fX6_member x1 x2 S = some res) : W p l e (headSpec wsX6_member rmX6_member).room s m args below meth c H locs 0 0 (MQ below (va_Qi (fun a (u : teS) => a = res.1 ∧ u = res.2) (fun u t => teR D cy ad ba O u t.heap) (teA ba)) args s 0 0 (teA ba)) (F0 m 0 ls []) := by
  have hx := X.1
  have hb := X.2.1
  have hown := X.2.2.2.2.1
  unfold fX6_member at hf
  refine lv_aload_n hx hb dX6_member_0 rfl (lv_at hl 0 rfl) ?_
  refine lv_aload_n hx hb dX6_member_1 rfl (lv_at hl 0 rfl) ?_
  refine rg_6_5 X hR iX6_member_6 wX6_member_16 dX6_member_2 ?_
  refine lv_iload_n hx hb dX6_member_5 rfl (lv_at hl 1 rfl) ?_
  obtain ⟨r_1, hq_2, hf⟩ := bd1_some hf
  refine kSi (As := [.ref (ad 372), .int x1]) (rest := [.ref (ad 369)]) X hR hS (zcX6_isMember l D cy ad ba O S 372 x1 rfl _ hq_2) (va_cwS 2 X.2.2.2.2.2.1 gX6_member_X6_isMember rfl rfl rfl kdX6_isMember.2 ⟨(Nat.le_of_ble_eq_true rfl), (Nat.le_of_ble_eq_true rfl)⟩)  rfl rfl hl.1 (Nat.le_of_ble_eq_true rfl) ⟨(Nat.le_of_ble_eq_true rfl), (Nat.le_of_ble_eq_true rfl)⟩ dX6_member_6 (fun H locs hR hS => ?_)
  refine lv_if_ne (tgt := 16) hx hb dX6_member_9 (by decide) (fun c_3 => ?_) (fun c_3 => ?_)
  · replace hf := ite_f c_3 hf
    refine lv_iload_n hx hb dX6_member_16 rfl (lv_at hl 2 rfl) ?_
    refine lv_i2l hx hb dX6_member_17 rfl ?_
    refine lv_lconst (v := (0 : Int64)) hx hb dX6_member_18 (by decide) ?_
    refine lv_ldc2 (v := (10 : Int64)) hx hb hown (X.2.2.2.2.2.1 _ wX6_member_150) dX6_member_19 ?_
    obtain ⟨r_4, hq_5, hf⟩ := bd1_some hf
    refine kSi (As := [.long (x2).toInt64, .long (0 : Int64), .long (10 : Int64)]) (rest := [.ref (ad 369)]) X hR hS (zcX6_in l D cy ad ba O S ((x2).toInt64) (0 : Int64) (10 : Int64) _ hq_5) (va_cwS 3 X.2.2.2.2.2.1 gX6_member_X6_in rfl rfl rfl kdX6_in.2 ⟨(Nat.le_of_ble_eq_true rfl), (Nat.le_of_ble_eq_true rfl)⟩)  rfl rfl hl.1 (Nat.le_of_ble_eq_true rfl) ⟨(Nat.le_of_ble_eq_true rfl), (Nat.le_of_ble_eq_true rfl)⟩ dX6_member_22 (fun H locs hR hS => ?_)
    refine lv_if_ne (tgt := 32) hx hb dX6_member_25 (by decide) (fun c_6 => ?_) (fun c_6 => ?_)
    · replace hf := ite_f c_6 hf
      refine lv_iconst (v := (0 : Int32)) hx hb dX6_member_32 (by decide) ?_
      exact bX6_member_33 (S := S) (x1 := x1) (x2 := x2) X S ((0 : Int32)) _ _ _ hR hS (lv_sub hl [0, 1, 2] rfl) hf
    · replace hf := ite_t c_6 hf
      refine lv_iconst (v := (2 : Int32)) hx hb dX6_member_28 (by decide) ?_
      refine lv_goto (tgt := 33) hx hb dX6_member_29 (by decide) ?_
      exact bX6_member_33 (S := S) (x1 := x1) (x2 := x2) X S ((2 : Int32)) _ _ _ hR hS (lv_sub hl [0, 1, 2] rfl) hf
  · replace hf := ite_t c_3 hf
    refine lv_iconst (v := (1 : Int32)) hx hb dX6_member_12 (by decide) ?_
    refine lv_goto (tgt := 33) hx hb dX6_member_13 (by decide) ?_
    exact bX6_member_33 (S := S) (x1 := x1) (x2 := x2) X S ((1 : Int32)) _ _ _ hR hS (lv_sub hl [0, 1, 2] rfl) hf
theorem zcX6_member (l : Launch) (D : va_G) (cy : Nat → ClassId) (ad : Nat → Nat) (ba : Nat) (O : Int64) (S : teS) (x1 : Int32) (x2 : Int32) (r : Int32) (S1 : teS) (hf : fX6_member x1 x2 S = some (r, S1)) : cI l yX6_member wsX6_member rmX6_member D cy ad ba O S [.ref (ad 369), .int x1, .int x2] r S1 :=
  te_of (by decide) rfl (Nat.le_of_ble_eq_true rfl) (fun p e s m below meth c ls X hR hS hl => bX6_member_0 (res := (r, S1)) (S := S) (x1 := x1) (x2 := x2) X _ _ _ hR hS hl hf)
abbrev rmX6_both : Room := { frames := 5, cells := 0, slots := 0, locals := 109 }
theorem kdX6_both : yX6_both.cls = RX6 ∧ yX6_both.cls ≠ "java/lang/invoke/MethodHandle" ∧ yX6_both.cls ≠ "java/lang/invoke/VarHandle" ∧ (parseMethodDescriptor yX6_both.desc).map (fun d => d.parameters.length) = some 3 := by decide +kernel
theorem wX6_both_16 : Cond.fieldLink RX6 16 "TandemExchangeModel" "now" "[I" ∈ wsX6_both := by decide +kernel
theorem iX6_both_6 : ∀ w ∈ wsX60, w ∈ wsX6_both := by decide +kernel
theorem wX6_both_155 : Cond.constantLong RX6 155 (3) ∈ wsX6_both := by decide +kernel
set_option maxRecDepth 100000 in
set_option maxHeartbeats 4000000 in
theorem bX6_both_49 {p : Program} {l : Launch} {e : Env} {s : State} {m : MethodId} {args : Array Value} {below : List Frame} {meth : Method} {c : Code} {D : va_G} {cy : Nat → ClassId} {ad : Nat → Nat} {ba : Nat} {O : Int64} {S : teS}  {x1 : Int32} {x2 : Int32} {x3 : Int32} {res : (Int32 × teS)} (X : teC wsX6_both RX6 cX6_both 4 (some .int) D cy ba p s m args meth c) : ∀ (S1 : teS) (y0 : Int32) (H : Heap) (locs : List Loc) (ls : Array Slot), teR D cy ad ba O S1 H → va_S (teA ba) s.heap H locs → lv_has ls 4 [(0, .ref (ad 369)), (1, .int x1), (2, .int x2), (3, .int x3)] → fX6_both_49 x1 x2 x3 S1 y0 = some res → W p l e (headSpec wsX6_both rmX6_both).room s m args below meth c H locs 0 0 (MQ below (va_Qi (fun a (u : teS) => a = res.1 ∧ u = res.2) (fun u t => teR D cy ad ba O u t.heap) (teA ba)) args s 0 0 (teA ba)) (F0 m 49 ls [.int y0, .ref (ad 369)]) := by
  have hx := X.1
  have hb := X.2.1
  have hown := X.2.2.2.2.1
  intro S1 y0 H locs ls hR hS hl hf
  unfold fX6_both_49 at hf
  obtain ⟨r_11, S2, hq_12, hf⟩ := bd2_some hf
  refine kVi (id := 369) (As := [.int y0]) (rest := []) X hR hS (zcX6_refused l D cy ad ba O S1 y0 _ _ hq_12) (cwV 1 X.2.2.2.2.2.1 gX6_both_X6_refused rfl rfl rfl kdX6_refused ⟨(Nat.le_of_ble_eq_true rfl), (Nat.le_of_ble_eq_true rfl)⟩) (by decide) rfl rfl rfl rfl hl.1 (Nat.le_of_ble_eq_true rfl) ⟨(Nat.le_of_ble_eq_true rfl), (Nat.le_of_ble_eq_true rfl)⟩ dX6_both_49 (fun H locs hR hS => ?_)
  refine lv_if_eq (tgt := 57) hx hb dX6_both_52 (by decide) (fun c_13 => ?_) (fun c_13 => ?_)
  · replace hf := ite_t c_13 hf
    refine lv_iload_n hx hb dX6_both_57 rfl (lv_at hl 3 rfl) ?_
    refine lv_if_ne (tgt := 73) hx hb dX6_both_58 (by decide) (fun c_14 => ?_) (fun c_14 => ?_)
    · replace hf := ite_f c_14 hf
      refine lv_iload_n hx hb dX6_both_73 rfl (lv_at hl 3 rfl) ?_
      refine lv_iconst (v := (1 : Int32)) hx hb dX6_both_74 (by decide) ?_
      refine lv_icmp_ne (tgt := 90) hx hb dX6_both_75 (by decide) (fun c_15 => ?_) (fun c_15 => ?_)
      · replace hf := ite_f c_15 hf
        refine lv_iload_n hx hb dX6_both_90 rfl (lv_at hl 3 rfl) ?_
        refine lv_iconst (v := (2 : Int32)) hx hb dX6_both_91 (by decide) ?_
        refine lv_icmp_ne (tgt := 110) hx hb dX6_both_92 (by decide) (fun c_16 => ?_) (fun c_16 => ?_)
        · replace hf := ite_f c_16 hf
          refine lv_aload_n hx hb dX6_both_110 rfl (lv_at hl 0 rfl) ?_
          refine rg_6_5 X hR iX6_both_6 wX6_both_16 dX6_both_111 ?_
          refine lv_iload_n hx hb dX6_both_114 rfl (lv_at hl 1 rfl) ?_
          refine lv_iload_n hx hb dX6_both_115 rfl (lv_at hl 2 rfl) ?_
          obtain ⟨r_17, hq_18, hf⟩ := bd1_some hf
          refine kSi (As := [.ref (ad 372), .int x1, .int x2]) (rest := []) X hR hS (zcX6_block l D cy ad ba O S2 372 x1 x2 rfl _ hq_18) (va_cwS 3 X.2.2.2.2.2.1 gX6_both_X6_block rfl rfl rfl kdX6_block.2 ⟨(Nat.le_of_ble_eq_true rfl), (Nat.le_of_ble_eq_true rfl)⟩)  rfl rfl hl.1 (Nat.le_of_ble_eq_true rfl) ⟨(Nat.le_of_ble_eq_true rfl), (Nat.le_of_ble_eq_true rfl)⟩ dX6_both_116 (fun H locs hR hS => ?_)
          refine lv_if_eq (tgt := 126) hx hb dX6_both_119 (by decide) (fun c_19 => ?_) (fun c_19 => ?_)
          · replace hf := ite_t c_19 hf
            refine lv_iconst (v := (0 : Int32)) hx hb dX6_both_126 (by decide) ?_
            exact eI X hR hS (congrArg Prod.fst (Option.some.inj hf)) (congrArg Prod.snd (Option.some.inj hf)) dX6_both_127
          · replace hf := ite_f c_19 hf
            refine lv_iconst (v := (1 : Int32)) hx hb dX6_both_122 (by decide) ?_
            refine lv_goto (tgt := 127) hx hb dX6_both_123 (by decide) ?_
            exact eI X hR hS (congrArg Prod.fst (Option.some.inj hf)) (congrArg Prod.snd (Option.some.inj hf)) dX6_both_127
        · replace hf := ite_t c_16 hf
          refine lv_aload_n hx hb dX6_both_95 rfl (lv_at hl 0 rfl) ?_
          refine rg_6_5 X hR iX6_both_6 wX6_both_16 dX6_both_96 ?_
          refine lv_iload_n hx hb dX6_both_99 rfl (lv_at hl 1 rfl) ?_
          refine lv_iload_n hx hb dX6_both_100 rfl (lv_at hl 2 rfl) ?_
          obtain ⟨r_20, hq_21, hf⟩ := bd1_some hf
          refine kSi (As := [.ref (ad 372), .int x1, .int x2]) (rest := []) X hR hS (zcX6_fit l D cy ad ba O S2 372 x1 x2 rfl _ hq_21) (va_cwS 3 X.2.2.2.2.2.1 gX6_both_X6_fit rfl rfl rfl kdX6_fit.2 ⟨(Nat.le_of_ble_eq_true rfl), (Nat.le_of_ble_eq_true rfl)⟩)  rfl rfl hl.1 (Nat.le_of_ble_eq_true rfl) ⟨(Nat.le_of_ble_eq_true rfl), (Nat.le_of_ble_eq_true rfl)⟩ dX6_both_101 (fun H locs hR hS => ?_)
          refine lv_if_eq (tgt := 126) hx hb dX6_both_104 (by decide) (fun c_22 => ?_) (fun c_22 => ?_)
          · replace hf := ite_t c_22 hf
            refine lv_iconst (v := (0 : Int32)) hx hb dX6_both_126 (by decide) ?_
            exact eI X hR hS (congrArg Prod.fst (Option.some.inj hf)) (congrArg Prod.snd (Option.some.inj hf)) dX6_both_127
          · replace hf := ite_f c_22 hf
            refine lv_goto (tgt := 122) hx hb dX6_both_107 (by decide) ?_
            refine lv_iconst (v := (1 : Int32)) hx hb dX6_both_122 (by decide) ?_
            refine lv_goto (tgt := 127) hx hb dX6_both_123 (by decide) ?_
            exact eI X hR hS (congrArg Prod.fst (Option.some.inj hf)) (congrArg Prod.snd (Option.some.inj hf)) dX6_both_127
      · replace hf := ite_t c_15 hf
        refine lv_aload_n hx hb dX6_both_78 rfl (lv_at hl 0 rfl) ?_
        refine rg_6_5 X hR iX6_both_6 wX6_both_16 dX6_both_79 ?_
        refine lv_iload_n hx hb dX6_both_82 rfl (lv_at hl 1 rfl) ?_
        refine lv_iload_n hx hb dX6_both_83 rfl (lv_at hl 2 rfl) ?_
        obtain ⟨r_23, hq_24, hf⟩ := bd1_some hf
        refine kSi (As := [.ref (ad 372), .int x1, .int x2]) (rest := []) X hR hS (zcX6_valueOf l D cy ad ba O S2 372 x1 x2 rfl _ hq_24) (va_cwS 3 X.2.2.2.2.2.1 gX6_both_X6_valueOf rfl rfl rfl kdX6_valueOf.2 ⟨(Nat.le_of_ble_eq_true rfl), (Nat.le_of_ble_eq_true rfl)⟩)  rfl rfl hl.1 (Nat.le_of_ble_eq_true rfl) ⟨(Nat.le_of_ble_eq_true rfl), (Nat.le_of_ble_eq_true rfl)⟩ dX6_both_84 (fun H locs hR hS => ?_)
        refine lv_goto (tgt := 127) hx hb dX6_both_87 (by decide) ?_
        exact eI X hR hS (congrArg Prod.fst (Option.some.inj hf)) (congrArg Prod.snd (Option.some.inj hf)) dX6_both_127
    · replace hf := ite_t c_14 hf
      refine lv_aload_n hx hb dX6_both_61 rfl (lv_at hl 0 rfl) ?_
      refine rg_6_5 X hR iX6_both_6 wX6_both_16 dX6_both_62 ?_
      refine lv_iload_n hx hb dX6_both_65 rfl (lv_at hl 1 rfl) ?_
      refine lv_iload_n hx hb dX6_both_66 rfl (lv_at hl 2 rfl) ?_
      obtain ⟨r_25, hq_26, hf⟩ := bd1_some hf
      refine kSi (As := [.ref (ad 372), .int x1, .int x2]) (rest := []) X hR hS (zcX6_score l D cy ad ba O S2 372 x1 x2 rfl _ hq_26) (va_cwS 3 X.2.2.2.2.2.1 gX6_both_X6_score rfl rfl rfl kdX6_score.2 ⟨(Nat.le_of_ble_eq_true rfl), (Nat.le_of_ble_eq_true rfl)⟩)  rfl rfl hl.1 (Nat.le_of_ble_eq_true rfl) ⟨(Nat.le_of_ble_eq_true rfl), (Nat.le_of_ble_eq_true rfl)⟩ dX6_both_67 (fun H locs hR hS => ?_)
      refine lv_goto (tgt := 127) hx hb dX6_both_70 (by decide) ?_
      exact eI X hR hS (congrArg Prod.fst (Option.some.inj hf)) (congrArg Prod.snd (Option.some.inj hf)) dX6_both_127
  · replace hf := ite_f c_13 hf
    refine lv_iconst (v := (0 : Int32)) hx hb dX6_both_55 (by decide) ?_
    exact eI X hR hS (congrArg Prod.fst (Option.some.inj hf)) (congrArg Prod.snd (Option.some.inj hf)) dX6_both_56
set_option maxRecDepth 100000 in
set_option maxHeartbeats 4000000 in
theorem bX6_both_0 {p : Program} {l : Launch} {e : Env} {s : State} {m : MethodId} {args : Array Value} {below : List Frame} {meth : Method} {c : Code} {D : va_G} {cy : Nat → ClassId} {ad : Nat → Nat} {ba : Nat} {O : Int64} {S : teS}  {x1 : Int32} {x2 : Int32} {x3 : Int32} {res : (Int32 × teS)} (X : teC wsX6_both RX6 cX6_both 4 (some .int) D cy ba p s m args meth c) (H : Heap) (locs : List Loc) (ls : Array Slot) (hR : teR D cy ad ba O S H) (hS : va_S (teA ba) s.heap H locs) (hl : lv_has ls 4 [(0, .ref (ad 369)), (1, .int x1), (2, .int x2), (3, .int x3)]) (hf : fX6_both x1 x2 x3 S = some res) : W p l e (headSpec wsX6_both rmX6_both).room s m args below meth c H locs 0 0 (MQ below (va_Qi (fun a (u : teS) => a = res.1 ∧ u = res.2) (fun u t => teR D cy ad ba O u t.heap) (teA ba)) args s 0 0 (teA ba)) (F0 m 0 ls []) := by
  have hx := X.1
  have hb := X.2.1
  have hown := X.2.2.2.2.1
  unfold fX6_both at hf
  refine lv_aload_n hx hb dX6_both_0 rfl (lv_at hl 0 rfl) ?_
  refine lv_aload_n hx hb dX6_both_1 rfl (lv_at hl 0 rfl) ?_
  refine rg_6_5 X hR iX6_both_6 wX6_both_16 dX6_both_2 ?_
  refine lv_iload_n hx hb dX6_both_5 rfl (lv_at hl 1 rfl) ?_
  obtain ⟨r_1, hq_2, hf⟩ := bd1_some hf
  refine kSi (As := [.ref (ad 372), .int x1]) (rest := [.ref (ad 369)]) X hR hS (zcX6_isMember l D cy ad ba O S 372 x1 rfl _ hq_2) (va_cwS 2 X.2.2.2.2.2.1 gX6_both_X6_isMember rfl rfl rfl kdX6_isMember.2 ⟨(Nat.le_of_ble_eq_true rfl), (Nat.le_of_ble_eq_true rfl)⟩)  rfl rfl hl.1 (Nat.le_of_ble_eq_true rfl) ⟨(Nat.le_of_ble_eq_true rfl), (Nat.le_of_ble_eq_true rfl)⟩ dX6_both_6 (fun H locs hR hS => ?_)
  refine lv_if_eq (tgt := 23) hx hb dX6_both_9 (by decide) (fun c_3 => ?_) (fun c_3 => ?_)
  · replace hf := ite_t c_3 hf
    refine lv_iconst (v := (1 : Int32)) hx hb dX6_both_23 (by decide) ?_
    refine lv_goto (tgt := 49) hx hb dX6_both_24 (by decide) ?_
    exact bX6_both_49 (S := S) (x1 := x1) (x2 := x2) (x3 := x3) X S ((1 : Int32)) _ _ _ hR hS (lv_sub hl [0, 1, 2, 3] rfl) hf
  · replace hf := ite_f c_3 hf
    refine lv_aload_n hx hb dX6_both_12 rfl (lv_at hl 0 rfl) ?_
    refine rg_6_5 X hR iX6_both_6 wX6_both_16 dX6_both_13 ?_
    refine lv_iload_n hx hb dX6_both_16 rfl (lv_at hl 2 rfl) ?_
    obtain ⟨r_4, hq_5, hf⟩ := bd1_some hf
    refine kSi (As := [.ref (ad 372), .int x2]) (rest := [.ref (ad 369)]) X hR hS (zcX6_isMember l D cy ad ba O S 372 x2 rfl _ hq_5) (va_cwS 2 X.2.2.2.2.2.1 gX6_both_X6_isMember rfl rfl rfl kdX6_isMember.2 ⟨(Nat.le_of_ble_eq_true rfl), (Nat.le_of_ble_eq_true rfl)⟩)  rfl rfl hl.1 (Nat.le_of_ble_eq_true rfl) ⟨(Nat.le_of_ble_eq_true rfl), (Nat.le_of_ble_eq_true rfl)⟩ dX6_both_17 (fun H locs hR hS => ?_)
    refine lv_if_ne (tgt := 27) hx hb dX6_both_20 (by decide) (fun c_6 => ?_) (fun c_6 => ?_)
    · replace hf := ite_f c_6 hf
      refine lv_iload_n hx hb dX6_both_27 rfl (lv_at hl 1 rfl) ?_
      refine lv_iload_n hx hb dX6_both_28 rfl (lv_at hl 2 rfl) ?_
      refine lv_icmp_eq (tgt := 44) hx hb dX6_both_29 (by decide) (fun c_7 => ?_) (fun c_7 => ?_)
      · replace hf := ite_t c_7 hf
        refine lv_iconst (v := (2 : Int32)) hx hb dX6_both_44 (by decide) ?_
        refine lv_goto (tgt := 49) hx hb dX6_both_45 (by decide) ?_
        exact bX6_both_49 (S := S) (x1 := x1) (x2 := x2) (x3 := x3) X S ((2 : Int32)) _ _ _ hR hS (lv_sub hl [0, 1, 2, 3] rfl) hf
      · replace hf := ite_f c_7 hf
        refine lv_iload_n hx hb dX6_both_32 rfl (lv_at hl 3 rfl) ?_
        refine lv_i2l hx hb dX6_both_33 rfl ?_
        refine lv_lconst (v := (0 : Int64)) hx hb dX6_both_34 (by decide) ?_
        refine lv_ldc2 (v := (3 : Int64)) hx hb hown (X.2.2.2.2.2.1 _ wX6_both_155) dX6_both_35 ?_
        obtain ⟨r_8, hq_9, hf⟩ := bd1_some hf
        refine kSi (As := [.long (x3).toInt64, .long (0 : Int64), .long (3 : Int64)]) (rest := [.ref (ad 369)]) X hR hS (zcX6_in l D cy ad ba O S ((x3).toInt64) (0 : Int64) (3 : Int64) _ hq_9) (va_cwS 3 X.2.2.2.2.2.1 gX6_both_X6_in rfl rfl rfl kdX6_in.2 ⟨(Nat.le_of_ble_eq_true rfl), (Nat.le_of_ble_eq_true rfl)⟩)  rfl rfl hl.1 (Nat.le_of_ble_eq_true rfl) ⟨(Nat.le_of_ble_eq_true rfl), (Nat.le_of_ble_eq_true rfl)⟩ dX6_both_38 (fun H locs hR hS => ?_)
        refine lv_if_ne (tgt := 48) hx hb dX6_both_41 (by decide) (fun c_10 => ?_) (fun c_10 => ?_)
        · replace hf := ite_f c_10 hf
          refine lv_iconst (v := (0 : Int32)) hx hb dX6_both_48 (by decide) ?_
          exact bX6_both_49 (S := S) (x1 := x1) (x2 := x2) (x3 := x3) X S ((0 : Int32)) _ _ _ hR hS (lv_sub hl [0, 1, 2, 3] rfl) hf
        · replace hf := ite_t c_10 hf
          refine lv_iconst (v := (2 : Int32)) hx hb dX6_both_44 (by decide) ?_
          refine lv_goto (tgt := 49) hx hb dX6_both_45 (by decide) ?_
          exact bX6_both_49 (S := S) (x1 := x1) (x2 := x2) (x3 := x3) X S ((2 : Int32)) _ _ _ hR hS (lv_sub hl [0, 1, 2, 3] rfl) hf
    · replace hf := ite_t c_6 hf
      refine lv_iconst (v := (1 : Int32)) hx hb dX6_both_23 (by decide) ?_
      refine lv_goto (tgt := 49) hx hb dX6_both_24 (by decide) ?_
      exact bX6_both_49 (S := S) (x1 := x1) (x2 := x2) (x3 := x3) X S ((1 : Int32)) _ _ _ hR hS (lv_sub hl [0, 1, 2, 3] rfl) hf
theorem zcX6_both (l : Launch) (D : va_G) (cy : Nat → ClassId) (ad : Nat → Nat) (ba : Nat) (O : Int64) (S : teS) (x1 : Int32) (x2 : Int32) (x3 : Int32) (r : Int32) (S1 : teS) (hf : fX6_both x1 x2 x3 S = some (r, S1)) : cI l yX6_both wsX6_both rmX6_both D cy ad ba O S [.ref (ad 369), .int x1, .int x2, .int x3] r S1 :=
  te_of (by decide) rfl (Nat.le_of_ble_eq_true rfl) (fun p e s m below meth c ls X hR hS hl => bX6_both_0 (res := (r, S1)) (S := S) (x1 := x1) (x2 := x2) (x3 := x3) X _ _ _ hR hS hl hf)
abbrev rmX6_note : Room := { frames := 1, cells := 0, slots := 0, locals := 24 }
theorem kdX6_note : yX6_note.cls = RX6 ∧ yX6_note.cls ≠ "java/lang/invoke/MethodHandle" ∧ yX6_note.cls ≠ "java/lang/invoke/VarHandle" ∧ (parseMethodDescriptor yX6_note.desc).map (fun d => d.parameters.length) = some 0 := by decide +kernel
theorem wX6_note_135 : Cond.fieldLink RX6 135 "TandemExchangeModel" "acts" "I" ∈ wsX6_note := by decide +kernel
theorem iX6_note_6 : ∀ w ∈ wsX60, w ∈ wsX6_note := fun _ h => List.mem_cons_of_mem _ (List.mem_append_right _ h)
theorem wX6_note_16 : Cond.fieldLink RX6 16 "TandemExchangeModel" "now" "[I" ∈ wsX6_note := by decide +kernel
theorem wX6_note_22 : Cond.fieldLink RX6 22 "TandemExchangeModel" "diary" "[I" ∈ wsX6_note := by decide +kernel
set_option maxRecDepth 100000 in
set_option maxHeartbeats 4000000 in
theorem bX6_note_49 {p : Program} {l : Launch} {e : Env} {s : State} {m : MethodId} {args : Array Value} {below : List Frame} {meth : Method} {c : Code} {D : va_G} {cy : Nat → ClassId} {ad : Nat → Nat} {ba : Nat} {O : Int64} {S : teS}  {res : teS} (X : teC wsX6_note RX6 cX6_note 2 none D cy ba p s m args meth c) : ∀ (S1 : teS) (H : Heap) (locs : List Loc) (ls : Array Slot), teR D cy ad ba O S1 H → va_S (teA ba) s.heap H locs → lv_has ls 2 [(0, .ref (ad 369))] → fX6_note_49 S1 = some res → W p l e (headSpec wsX6_note rmX6_note).room s m args below meth c H locs 0 0 (MQ below (va_Qv (fun (u : teS) => u = res) (fun u t => teR D cy ad ba O u t.heap) (teA ba)) args s 0 0 (teA ba)) (F0 m 49 ls []) := by
  have hx := X.1
  have hb := X.2.1
  have hown := X.2.2.2.2.1
  intro S1 H locs ls hR hS hl hf
  unfold fX6_note_49 at hf
  refine lv_aload_n hx hb dX6_note_49 rfl (lv_at hl 0 rfl) ?_
  refine rg_6_5 X hR iX6_note_6 wX6_note_16 dX6_note_50 ?_
  refine lv_iconst (v := (0 : Int32)) hx hb dX6_note_53 (by decide) ?_
  refine lv_aload_n hx hb dX6_note_54 rfl (lv_at hl 0 rfl) ?_
  refine rg_6_7 X hR iX6_note_6 wX6_note_22 dX6_note_55 ?_
  refine lv_bipush (v := (92 : Int32)) hx hb dX6_note_58 (by decide) ?_
  refine lv_aload_n hx hb dX6_note_60 rfl (lv_at hl 0 rfl) ?_
  refine rg_6_8 X hR iX6_note_6 wX6_note_135 dX6_note_61 ?_
  refine lv_imul hx hb dX6_note_64 ?_
  obtain ⟨S2, hq_3, hf⟩ := bd1_some hf
  refine kSv (As := [.ref (ad 372), .int (0 : Int32), .ref (ad 374), .int ((92 : Int32) * (S1 369 3))]) (rest := []) X hR hS (zcX6_copyPage l D cy ad ba O S1 372 (0 : Int32) 374 ((92 : Int32) * (S1 369 3)) rfl rfl _ hq_3) (va_cwS 4 X.2.2.2.2.2.1 gX6_note_X6_copyPage rfl rfl rfl kdX6_copyPage.2 ⟨(Nat.le_of_ble_eq_true rfl), (Nat.le_of_ble_eq_true rfl)⟩)  rfl rfl hl.1 (Nat.le_of_ble_eq_true rfl) ⟨(Nat.le_of_ble_eq_true rfl), (Nat.le_of_ble_eq_true rfl)⟩ dX6_note_65 (fun H locs hR hS => ?_)
  refine lv_aload_n hx hb dX6_note_68 rfl (lv_at hl 0 rfl) ?_
  refine lv_dup hx hb dX6_note_69 rfl ?_
  refine rg_6_8 X hR iX6_note_6 wX6_note_135 dX6_note_70 ?_
  refine lv_iconst (v := (1 : Int32)) hx hb dX6_note_73 (by decide) ?_
  refine lv_iadd hx hb dX6_note_74 ?_
  refine rp_6_8 X hR hS iX6_note_6 wX6_note_135 dX6_note_75 (fun H locs hR hS => ?_)
  generalize teu S2 369 3 ((S2 369 3) + (1 : Int32)) = S3 at hf hR
  replace hf := lt1_e hf
  exact eV X hR hS (Option.some.inj hf) dX6_note_78
set_option maxRecDepth 100000 in
set_option maxHeartbeats 4000000 in
theorem bX6_note_11 {p : Program} {l : Launch} {e : Env} {s : State} {m : MethodId} {args : Array Value} {below : List Frame} {meth : Method} {c : Code} {D : va_G} {cy : Nat → ClassId} {ad : Nat → Nat} {ba : Nat} {O : Int64} {S : teS}  {res : teS} (X : teC wsX6_note RX6 cX6_note 2 none D cy ba p s m args meth c) : ∀ (n : Nat), ∀ (S1 : teS) (v1 : Int32) (H : Heap) (locs : List Loc) (ls : Array Slot), teR D cy ad ba O S1 H → va_S (teA ba) s.heap H locs → lv_has ls 2 [(0, .ref (ad 369)), (1, .int v1)] → fX6_note_11 n S1 v1 = some res → W p l e (headSpec wsX6_note rmX6_note).room s m args below meth c H locs 0 0 (MQ below (va_Qv (fun (u : teS) => u = res) (fun u t => teR D cy ad ba O u t.heap) (teA ba)) args s 0 0 (teA ba)) (F0 m 11 ls []) := by
  have hx := X.1
  have hb := X.2.1
  have hown := X.2.2.2.2.1
  intro n
  induction n with
  | zero =>
    intro S1 v1 H locs ls hR hS hl hf
    exact nomatch hf
  | succ n ih =>
    intro S1 v1 H locs ls hR hS hl hf
    unfold fX6_note_11 at hf
    refine lv_iload_n hx hb dX6_note_11 rfl (lv_at hl 1 rfl) ?_
    refine lv_sipush (v := (1196 : Int32)) hx hb dX6_note_12 (by decide) ?_
    refine lv_icmp_ge (tgt := 39) hx hb dX6_note_15 (by decide) (fun c_4 => ?_) (fun c_4 => ?_)
    · replace hf := ite_t c_4 hf
      refine lv_aload_n hx hb dX6_note_39 rfl (lv_at hl 0 rfl) ?_
      refine lv_dup hx hb dX6_note_40 rfl ?_
      refine rg_6_8 X hR iX6_note_6 wX6_note_135 dX6_note_41 ?_
      refine lv_iconst (v := (1 : Int32)) hx hb dX6_note_44 (by decide) ?_
      refine lv_isub hx hb dX6_note_45 ?_
      refine rp_6_8 X hR hS iX6_note_6 wX6_note_135 dX6_note_46 (fun H locs hR hS => ?_)
      generalize teu S1 369 3 ((S1 369 3) - (1 : Int32)) = S2 at hf hR
      replace hf := lt1_e hf
      exact bX6_note_49 (S := S)  X S2 _ _ _ hR hS (lv_sub hl [0] rfl) hf
    · replace hf := ite_f c_4 hf
      refine lv_aload_n hx hb dX6_note_18 rfl (lv_at hl 0 rfl) ?_
      refine rg_6_7 X hR iX6_note_6 wX6_note_22 dX6_note_19 ?_
      refine lv_iload_n hx hb dX6_note_22 rfl (lv_at hl 1 rfl) ?_
      refine lv_aload_n hx hb dX6_note_23 rfl (lv_at hl 0 rfl) ?_
      refine rg_6_7 X hR iX6_note_6 wX6_note_22 dX6_note_24 ?_
      refine lv_iload_n hx hb dX6_note_27 rfl (lv_at hl 1 rfl) ?_
      refine lv_bipush (v := (92 : Int32)) hx hb dX6_note_28 (by decide) ?_
      refine lv_iadd hx hb dX6_note_30 ?_
      obtain ⟨h_5, hf⟩ := chk_some hf
      refine ra_int X hR (r := 374) rfl h_5 dX6_note_31 ?_
      obtain ⟨h_6, hf⟩ := chk_some hf
      refine rs_int X hR hS (r := 374) rfl h_6 dX6_note_32 (fun H locs hR hS => ?_)
      generalize teu S1 374 v1.toNatClampNeg (S1 374 (v1 + (92 : Int32)).toNatClampNeg) = S3 at hf hR
      replace hf := lt1_e hf
      refine lv_iinc (v := (v1 + (1 : Int32))) (lv' := [(1, .int (v1 + (1 : Int32))), (0, .ref (ad 369))]) hx hb dX6_note_33 hl (k := 1) rfl rfl (by decide) rfl (fun ls hl => ?_)
      refine lv_goto (tgt := 11) hx hb dX6_note_36 (by decide) ?_
      exact ih S3 ((v1 + (1 : Int32))) _ _ _ hR hS (lv_sub hl [1, 0] rfl) hf
set_option maxRecDepth 100000 in
set_option maxHeartbeats 4000000 in
theorem bX6_note_0 {p : Program} {l : Launch} {e : Env} {s : State} {m : MethodId} {args : Array Value} {below : List Frame} {meth : Method} {c : Code} {D : va_G} {cy : Nat → ClassId} {ad : Nat → Nat} {ba : Nat} {O : Int64} {S : teS}  {res : teS} (X : teC wsX6_note RX6 cX6_note 2 none D cy ba p s m args meth c) (H : Heap) (locs : List Loc) (ls : Array Slot) (hR : teR D cy ad ba O S H) (hS : va_S (teA ba) s.heap H locs) (hl : lv_has ls 2 [(0, .ref (ad 369))]) (hf : fX6_note S = some res) : W p l e (headSpec wsX6_note rmX6_note).room s m args below meth c H locs 0 0 (MQ below (va_Qv (fun (u : teS) => u = res) (fun u t => teR D cy ad ba O u t.heap) (teA ba)) args s 0 0 (teA ba)) (F0 m 0 ls []) := by
  have hx := X.1
  have hb := X.2.1
  have hown := X.2.2.2.2.1
  unfold fX6_note at hf
  refine lv_aload_n hx hb dX6_note_0 rfl (lv_at hl 0 rfl) ?_
  refine rg_6_8 X hR iX6_note_6 wX6_note_135 dX6_note_1 ?_
  refine lv_bipush (v := (14 : Int32)) hx hb dX6_note_4 (by decide) ?_
  refine lv_icmp_ne (tgt := 49) hx hb dX6_note_6 (by decide) (fun c_1 => ?_) (fun c_1 => ?_)
  · replace hf := ite_f c_1 hf
    exact bX6_note_49 (S := S)  X S _ _ _ hR hS (lv_sub hl [0] rfl) hf
  · replace hf := ite_t c_1 hf
    refine lv_iconst (v := (0 : Int32)) hx hb dX6_note_9 (by decide) ?_
    refine lv_istore_n (lv' := [(1, .int (0 : Int32)), (0, .ref (ad 369))]) hx hb dX6_note_10 rfl hl (by decide) rfl (fun ls hl => ?_)
    exact bX6_note_11 (S := S)  X 2000 S ((0 : Int32)) _ _ _ hR hS (lv_sub hl [1, 0] rfl) hf
theorem zcX6_note (l : Launch) (D : va_G) (cy : Nat → ClassId) (ad : Nat → Nat) (ba : Nat) (O : Int64) (S : teS) (res : teS) (hf : fX6_note S = some res) : cV l yX6_note wsX6_note rmX6_note D cy ad ba O S [.ref (ad 369)] res :=
  te_of (by decide +kernel) rfl (Nat.le_of_ble_eq_true rfl) (fun p e s m below meth c ls X hR hS hl => bX6_note_0 (S := S)  X _ _ _ hR hS hl hf)
abbrev rmX6_join : Room := { frames := 2, cells := 0, slots := 0, locals := 45 }
theorem kdX6_join : yX6_join.cls = RX6 ∧ yX6_join.cls ≠ "java/lang/invoke/MethodHandle" ∧ yX6_join.cls ≠ "java/lang/invoke/VarHandle" ∧ (parseMethodDescriptor yX6_join.desc).map (fun d => d.parameters.length) = some 3 := by decide +kernel
theorem wX6_join_155 : Cond.constantLong RX6 155 (3) ∈ wsX6_join := by decide +kernel
theorem wX6_join_157 : Cond.constantLong RX6 157 (9999) ∈ wsX6_join := by decide +kernel
theorem wX6_join_159 : Cond.constantLong RX6 159 (-99) ∈ wsX6_join := by decide +kernel
theorem wX6_join_161 : Cond.constantLong RX6 161 (99) ∈ wsX6_join := by decide +kernel
theorem wX6_join_16 : Cond.fieldLink RX6 16 "TandemExchangeModel" "now" "[I" ∈ wsX6_join := by decide +kernel
theorem iX6_join_6 : ∀ w ∈ wsX60, w ∈ wsX6_join := by decide +kernel
set_option maxRecDepth 100000 in
set_option maxHeartbeats 4000000 in
theorem bX6_join_100 {p : Program} {l : Launch} {e : Env} {s : State} {m : MethodId} {args : Array Value} {below : List Frame} {meth : Method} {c : Code} {D : va_G} {cy : Nat → ClassId} {ad : Nat → Nat} {ba : Nat} {O : Int64} {S : teS}  {x1 : Int32} {x2 : Int32} {x3 : Int32} {res : (Int32 × teS)} (X : teC wsX6_join RX6 cX6_join 8 (some .int) D cy ba p s m args meth c) : ∀ (n : Nat), ∀ (S1 : teS) (v5 : Int32) (v6 : Int32) (v7 : Int32) (H : Heap) (locs : List Loc) (ls : Array Slot), teR D cy ad ba O S1 H → va_S (teA ba) s.heap H locs → lv_has ls 8 [(0, .ref (ad 369)), (1, .int x1), (3, .int x3), (5, .int v5), (6, .int v6), (7, .int v7)] → fX6_join_100 x1 x2 x3 n S1 v5 v6 v7 = some res → W p l e (headSpec wsX6_join rmX6_join).room s m args below meth c H locs 0 0 (MQ below (va_Qi (fun a (u : teS) => a = res.1 ∧ u = res.2) (fun u t => teR D cy ad ba O u t.heap) (teA ba)) args s 0 0 (teA ba)) (F0 m 100 ls []) := by
  have hx := X.1
  have hb := X.2.1
  have hown := X.2.2.2.2.1
  intro n
  induction n with
  | zero =>
    intro S1 v5 v6 v7 H locs ls hR hS hl hf
    exact nomatch hf
  | succ n ih =>
    intro S1 v5 v6 v7 H locs ls hR hS hl hf
    unfold fX6_join_100 at hf
    refine lv_iload hx hb dX6_join_100 (lv_at hl 5 rfl) ?_
    refine lv_if_lt (tgt := 133) hx hb dX6_join_102 (by decide) (fun c_21 => ?_) (fun c_21 => ?_)
    · replace hf := ite_t c_21 hf
      refine lv_aload_n hx hb dX6_join_133 rfl (lv_at hl 0 rfl) ?_
      refine rg_6_5 X hR iX6_join_6 wX6_join_16 dX6_join_134 ?_
      refine lv_iload hx hb dX6_join_137 (lv_at hl 3 rfl) ?_
      refine lv_iconst (v := (4 : Int32)) hx hb dX6_join_139 (by decide) ?_
      refine lv_iadd hx hb dX6_join_140 ?_
      refine lv_iload_n hx hb dX6_join_141 rfl (lv_at hl 1 rfl) ?_
      obtain ⟨h_22, hf⟩ := chk_some hf
      refine rs_int X hR hS (r := 372) rfl h_22 dX6_join_142 (fun H locs hR hS => ?_)
      generalize teu S1 372 (v5 + (4 : Int32)).toNatClampNeg x1 = S2 at hf hR
      replace hf := lt1_e hf
      refine lv_aload_n hx hb dX6_join_143 rfl (lv_at hl 0 rfl) ?_
      refine rg_6_5 X hR iX6_join_6 wX6_join_16 dX6_join_144 ?_
      refine lv_iload hx hb dX6_join_147 (lv_at hl 3 rfl) ?_
      refine lv_iconst (v := (5 : Int32)) hx hb dX6_join_149 (by decide) ?_
      refine lv_iadd hx hb dX6_join_150 ?_
      refine lv_iconst (v := (0 : Int32)) hx hb dX6_join_151 (by decide) ?_
      obtain ⟨h_23, hf⟩ := chk_some hf
      refine rs_int X hR hS (r := 372) rfl h_23 dX6_join_152 (fun H locs hR hS => ?_)
      generalize teu S2 372 (v5 + (5 : Int32)).toNatClampNeg (0 : Int32) = S3 at hf hR
      replace hf := lt1_e hf
      refine lv_aload_n hx hb dX6_join_153 rfl (lv_at hl 0 rfl) ?_
      refine rg_6_5 X hR iX6_join_6 wX6_join_16 dX6_join_154 ?_
      refine lv_iload hx hb dX6_join_157 (lv_at hl 3 rfl) ?_
      refine lv_bipush (v := (6 : Int32)) hx hb dX6_join_159 (by decide) ?_
      refine lv_iadd hx hb dX6_join_161 ?_
      refine lv_iload_n hx hb dX6_join_162 rfl (lv_at hl 2 rfl) ?_
      obtain ⟨h_24, hf⟩ := chk_some hf
      refine rs_int X hR hS (r := 372) rfl h_24 dX6_join_163 (fun H locs hR hS => ?_)
      generalize teu S3 372 (v5 + (6 : Int32)).toNatClampNeg x3 = S4 at hf hR
      replace hf := lt1_e hf
      refine lv_aload_n hx hb dX6_join_164 rfl (lv_at hl 0 rfl) ?_
      refine rg_6_5 X hR iX6_join_6 wX6_join_16 dX6_join_165 ?_
      refine lv_iload hx hb dX6_join_168 (lv_at hl 3 rfl) ?_
      refine lv_bipush (v := (7 : Int32)) hx hb dX6_join_170 (by decide) ?_
      refine lv_iadd hx hb dX6_join_172 ?_
      refine lv_iconst (v := (0 : Int32)) hx hb dX6_join_173 (by decide) ?_
      obtain ⟨h_25, hf⟩ := chk_some hf
      refine rs_int X hR hS (r := 372) rfl h_25 dX6_join_174 (fun H locs hR hS => ?_)
      generalize teu S4 372 (v5 + (7 : Int32)).toNatClampNeg (0 : Int32) = S5 at hf hR
      replace hf := lt1_e hf
      refine lv_aload_n hx hb dX6_join_175 rfl (lv_at hl 0 rfl) ?_
      refine rg_6_5 X hR iX6_join_6 wX6_join_16 dX6_join_176 ?_
      refine lv_aload_n hx hb dX6_join_179 rfl (lv_at hl 0 rfl) ?_
      refine rg_6_5 X hR iX6_join_6 wX6_join_16 dX6_join_180 ?_
      refine lv_iconst (v := (0 : Int32)) hx hb dX6_join_183 (by decide) ?_
      obtain ⟨h_26, hf⟩ := chk_some hf
      refine ra_int X hR (r := 372) rfl h_26 dX6_join_184 ?_
      obtain ⟨S6, hq_28, hf⟩ := bd1_some hf
      refine kSv (As := [.ref (ad 372), .int (S5 372 (0 : Int32).toNatClampNeg)]) (rest := []) X hR hS (zcX6_free l D cy ad ba O S5 372 (S5 372 (0 : Int32).toNatClampNeg) rfl _ hq_28) (va_cwS 2 X.2.2.2.2.2.1 gX6_join_X6_free rfl rfl rfl kdX6_free.2 ⟨(Nat.le_of_ble_eq_true rfl), (Nat.le_of_ble_eq_true rfl)⟩)  rfl rfl hl.1 (Nat.le_of_ble_eq_true rfl) ⟨(Nat.le_of_ble_eq_true rfl), (Nat.le_of_ble_eq_true rfl)⟩ dX6_join_185 (fun H locs hR hS => ?_)
      refine lv_aload_n hx hb dX6_join_188 rfl (lv_at hl 0 rfl) ?_
      refine rg_6_5 X hR iX6_join_6 wX6_join_16 dX6_join_189 ?_
      refine lv_iconst (v := (0 : Int32)) hx hb dX6_join_192 (by decide) ?_
      refine lv_dup2_11 hx hb dX6_join_193 rfl rfl ?_
      refine ra_int X hR (r := 372) rfl h_26 dX6_join_194 ?_
      refine lv_iconst (v := (1 : Int32)) hx hb dX6_join_195 (by decide) ?_
      refine lv_iadd hx hb dX6_join_196 ?_
      refine rs_int X hR hS (r := 372) rfl h_26 dX6_join_197 (fun H locs hR hS => ?_)
      generalize teu S6 372 (0 : Int32).toNatClampNeg ((S6 372 (0 : Int32).toNatClampNeg) + (1 : Int32)) = S7 at hf hR
      replace hf := lt1_e hf
      refine lv_aload_n hx hb dX6_join_198 rfl (lv_at hl 0 rfl) ?_
      refine rg_6_5 X hR iX6_join_6 wX6_join_16 dX6_join_199 ?_
      refine lv_iconst (v := (0 : Int32)) hx hb dX6_join_202 (by decide) ?_
      refine ra_int X hR (r := 372) rfl h_26 dX6_join_203 ?_
      refine lv_iconst (v := (1 : Int32)) hx hb dX6_join_204 (by decide) ?_
      refine lv_isub hx hb dX6_join_205 ?_
      exact eI X hR hS (congrArg Prod.fst (Option.some.inj hf)) (congrArg Prod.snd (Option.some.inj hf)) dX6_join_206
    · replace hf := ite_f c_21 hf
      refine lv_aload_n hx hb dX6_join_105 rfl (lv_at hl 0 rfl) ?_
      refine rg_6_5 X hR iX6_join_6 wX6_join_16 dX6_join_106 ?_
      refine lv_iload hx hb dX6_join_109 (lv_at hl 3 rfl) ?_
      refine lv_iload hx hb dX6_join_111 (lv_at hl 5 rfl) ?_
      refine lv_iadd hx hb dX6_join_113 ?_
      refine lv_iload hx hb dX6_join_114 (lv_at hl 4 rfl) ?_
      refine lv_bipush (v := (10 : Int32)) hx hb dX6_join_116 (by decide) ?_
      refine lv_irem hx hb dX6_join_118 (by decide) ?_
      obtain ⟨h_29, hf⟩ := chk_some hf
      refine rs_int X hR hS (r := 372) rfl h_29 dX6_join_119 (fun H locs hR hS => ?_)
      generalize teu S1 372 (v5 + v7).toNatClampNeg (v6 - v6 / (10 : Int32) * (10 : Int32)) = S8 at hf hR
      replace hf := lt1_e hf
      refine lv_iload hx hb dX6_join_120 (lv_at hl 4 rfl) ?_
      refine lv_bipush (v := (10 : Int32)) hx hb dX6_join_122 (by decide) ?_
      refine lv_idiv hx hb dX6_join_124 (by decide) ?_
      refine lv_istore (lv' := [(6, .int (v6 / (10 : Int32))), (0, .ref (ad 369)), (1, .int x1), (3, .int x3), (5, .int v5), (7, .int v7)]) hx hb dX6_join_125 hl (by decide) rfl (fun ls hl => ?_)
      refine lv_iinc (v := (v7 + (-1 : Int32))) (lv' := [(7, .int (v7 + (-1 : Int32))), (6, .int (v6 / (10 : Int32))), (0, .ref (ad 369)), (1, .int x1), (3, .int x3), (5, .int v5)]) hx hb dX6_join_127 hl (k := 5) rfl rfl (by decide) rfl (fun ls hl => ?_)
      refine lv_goto (tgt := 100) hx hb dX6_join_130 (by decide) ?_
      exact ih S8 (v5) ((v6 / (10 : Int32))) ((v7 + (-1 : Int32))) _ _ _ hR hS (lv_sub hl [2, 3, 4, 5, 1, 0] rfl) hf
set_option maxRecDepth 100000 in
set_option maxHeartbeats 4000000 in
theorem bX6_join_71 {p : Program} {l : Launch} {e : Env} {s : State} {m : MethodId} {args : Array Value} {below : List Frame} {meth : Method} {c : Code} {D : va_G} {cy : Nat → ClassId} {ad : Nat → Nat} {ba : Nat} {O : Int64} {S : teS}  {x1 : Int32} {x2 : Int32} {x3 : Int32} {res : (Int32 × teS)} (X : teC wsX6_join RX6 cX6_join 8 (some .int) D cy ba p s m args meth c) : ∀ (S1 : teS) (y0 : Int32) (H : Heap) (locs : List Loc) (ls : Array Slot), teR D cy ad ba O S1 H → va_S (teA ba) s.heap H locs → lv_has ls 8 [(0, .ref (ad 369)), (1, .int x1), (2, .int x2), (3, .int x3)] → fX6_join_71 x1 x2 x3 S1 y0 = some res → W p l e (headSpec wsX6_join rmX6_join).room s m args below meth c H locs 0 0 (MQ below (va_Qi (fun a (u : teS) => a = res.1 ∧ u = res.2) (fun u t => teR D cy ad ba O u t.heap) (teA ba)) args s 0 0 (teA ba)) (F0 m 71 ls [.int y0, .ref (ad 369)]) := by
  have hx := X.1
  have hb := X.2.1
  have hown := X.2.2.2.2.1
  intro S1 y0 H locs ls hR hS hl hf
  unfold fX6_join_71 at hf
  obtain ⟨r_13, S2, hq_14, hf⟩ := bd2_some hf
  refine kVi (id := 369) (As := [.int y0]) (rest := []) X hR hS (zcX6_refused l D cy ad ba O S1 y0 _ _ hq_14) (cwV 1 X.2.2.2.2.2.1 gX6_join_X6_refused rfl rfl rfl kdX6_refused ⟨(Nat.le_of_ble_eq_true rfl), (Nat.le_of_ble_eq_true rfl)⟩) (by decide) rfl rfl rfl rfl hl.1 (Nat.le_of_ble_eq_true rfl) ⟨(Nat.le_of_ble_eq_true rfl), (Nat.le_of_ble_eq_true rfl)⟩ dX6_join_71 (fun H locs hR hS => ?_)
  refine lv_if_eq (tgt := 79) hx hb dX6_join_74 (by decide) (fun c_15 => ?_) (fun c_15 => ?_)
  · replace hf := ite_t c_15 hf
    refine lv_aload_n hx hb dX6_join_79 rfl (lv_at hl 0 rfl) ?_
    obtain ⟨S3, hq_17, hf⟩ := bd1_some hf
    refine kVv (id := 369) (As := []) (rest := []) X hR hS (zcX6_note l D cy ad ba O S2 _ hq_17) (cwV 0 X.2.2.2.2.2.1 gX6_join_X6_note rfl rfl rfl kdX6_note ⟨(Nat.le_of_ble_eq_true rfl), (Nat.le_of_ble_eq_true rfl)⟩) (by decide) rfl rfl rfl rfl hl.1 (Nat.le_of_ble_eq_true rfl) ⟨(Nat.le_of_ble_eq_true rfl), (Nat.le_of_ble_eq_true rfl)⟩ dX6_join_80 (fun H locs hR hS => ?_)
    refine lv_aload_n hx hb dX6_join_83 rfl (lv_at hl 0 rfl) ?_
    refine rg_6_5 X hR iX6_join_6 wX6_join_16 dX6_join_84 ?_
    refine lv_iconst (v := (0 : Int32)) hx hb dX6_join_87 (by decide) ?_
    obtain ⟨h_18, hf⟩ := chk_some hf
    refine ra_int X hR (r := 372) rfl h_18 dX6_join_88 ?_
    obtain ⟨r_19, hq_20, hf⟩ := bd1_some hf
    refine kSi (As := [.int (S3 372 (0 : Int32).toNatClampNeg)]) (rest := []) X hR hS (zcX6_at l D cy ad ba O S3 (S3 372 (0 : Int32).toNatClampNeg) _ hq_20) (va_cwS 1 X.2.2.2.2.2.1 gX6_join_X6_at rfl rfl rfl kdX6_at.2 ⟨(Nat.le_of_ble_eq_true rfl), (Nat.le_of_ble_eq_true rfl)⟩)  rfl rfl hl.1 (Nat.le_of_ble_eq_true rfl) ⟨(Nat.le_of_ble_eq_true rfl), (Nat.le_of_ble_eq_true rfl)⟩ dX6_join_89 (fun H locs hR hS => ?_)
    refine lv_istore (lv' := [(5, .int r_19), (0, .ref (ad 369)), (1, .int x1), (2, .int x2), (3, .int x3)]) hx hb dX6_join_92 hl (by decide) rfl (fun ls hl => ?_)
    refine lv_iload_n hx hb dX6_join_94 rfl (lv_at hl 3 rfl) ?_
    refine lv_istore (lv' := [(6, .int x2), (5, .int r_19), (0, .ref (ad 369)), (1, .int x1), (2, .int x2), (3, .int x3)]) hx hb dX6_join_95 hl (by decide) rfl (fun ls hl => ?_)
    refine lv_iconst (v := (3 : Int32)) hx hb dX6_join_97 (by decide) ?_
    refine lv_istore (lv' := [(7, .int (3 : Int32)), (6, .int x2), (5, .int r_19), (0, .ref (ad 369)), (1, .int x1), (2, .int x2), (3, .int x3)]) hx hb dX6_join_98 hl (by decide) rfl (fun ls hl => ?_)
    exact bX6_join_100 (S := S) (x1 := x1) (x2 := x2) (x3 := x3) X 2000 S3 (r_19) (x2) ((3 : Int32)) _ _ _ hR hS (lv_sub hl [3, 4, 6, 2, 1, 0] rfl) hf
  · replace hf := ite_f c_15 hf
    refine lv_iconst (v := (0 : Int32)) hx hb dX6_join_77 (by decide) ?_
    exact eI X hR hS (congrArg Prod.fst (Option.some.inj hf)) (congrArg Prod.snd (Option.some.inj hf)) dX6_join_78
set_option maxRecDepth 100000 in
set_option maxHeartbeats 4000000 in
theorem bX6_join_43 {p : Program} {l : Launch} {e : Env} {s : State} {m : MethodId} {args : Array Value} {below : List Frame} {meth : Method} {c : Code} {D : va_G} {cy : Nat → ClassId} {ad : Nat → Nat} {ba : Nat} {O : Int64} {S : teS}  {x1 : Int32} {x2 : Int32} {x3 : Int32} {res : (Int32 × teS)} (X : teC wsX6_join RX6 cX6_join 8 (some .int) D cy ba p s m args meth c) : ∀ (S1 : teS) (y0 : Int32) (H : Heap) (locs : List Loc) (ls : Array Slot), teR D cy ad ba O S1 H → va_S (teA ba) s.heap H locs → lv_has ls 8 [(0, .ref (ad 369)), (1, .int x1), (2, .int x2), (3, .int x3)] → fX6_join_43 x1 x2 x3 S1 y0 = some res → W p l e (headSpec wsX6_join rmX6_join).room s m args below meth c H locs 0 0 (MQ below (va_Qi (fun a (u : teS) => a = res.1 ∧ u = res.2) (fun u t => teR D cy ad ba O u t.heap) (teA ba)) args s 0 0 (teA ba)) (F0 m 43 ls [.int y0]) := by
  have hx := X.1
  have hb := X.2.1
  have hown := X.2.2.2.2.1
  intro S1 y0 H locs ls hR hS hl hf
  unfold fX6_join_43 at hf
  refine lv_istore (lv' := [(4, .int y0), (0, .ref (ad 369)), (1, .int x1), (2, .int x2), (3, .int x3)]) hx hb dX6_join_43 hl (by decide) rfl (fun ls hl => ?_)
  refine lv_aload_n hx hb dX6_join_45 rfl (lv_at hl 1 rfl) ?_
  refine lv_iload hx hb dX6_join_46 (lv_at hl 0 rfl) ?_
  refine lv_if_ne (tgt := 55) hx hb dX6_join_48 (by decide) (fun c_10 => ?_) (fun c_10 => ?_)
  · replace hf := ite_f c_10 hf
    refine lv_aload_n hx hb dX6_join_55 rfl (lv_at hl 1 rfl) ?_
    refine rg_6_5 X hR iX6_join_6 wX6_join_16 dX6_join_56 ?_
    refine lv_iconst (v := (0 : Int32)) hx hb dX6_join_59 (by decide) ?_
    obtain ⟨h_11, hf⟩ := chk_some hf
    refine ra_int X hR (r := 372) rfl h_11 dX6_join_60 ?_
    refine lv_bipush (v := (9 : Int32)) hx hb dX6_join_61 (by decide) ?_
    refine lv_icmp_ne (tgt := 70) hx hb dX6_join_63 (by decide) (fun c_12 => ?_) (fun c_12 => ?_)
    · replace hf := ite_f c_12 hf
      refine lv_iconst (v := (0 : Int32)) hx hb dX6_join_70 (by decide) ?_
      exact bX6_join_71 (S := S) (x1 := x1) (x2 := x2) (x3 := x3) X S1 ((0 : Int32)) _ _ _ hR hS (lv_sub hl [1, 2, 3, 4] rfl) hf
    · replace hf := ite_t c_12 hf
      refine lv_iconst (v := (2 : Int32)) hx hb dX6_join_66 (by decide) ?_
      refine lv_goto (tgt := 71) hx hb dX6_join_67 (by decide) ?_
      exact bX6_join_71 (S := S) (x1 := x1) (x2 := x2) (x3 := x3) X S1 ((2 : Int32)) _ _ _ hR hS (lv_sub hl [1, 2, 3, 4] rfl) hf
  · replace hf := ite_t c_10 hf
    refine lv_iconst (v := (1 : Int32)) hx hb dX6_join_51 (by decide) ?_
    refine lv_goto (tgt := 71) hx hb dX6_join_52 (by decide) ?_
    exact bX6_join_71 (S := S) (x1 := x1) (x2 := x2) (x3 := x3) X S1 ((1 : Int32)) _ _ _ hR hS (lv_sub hl [1, 2, 3, 4] rfl) hf
set_option maxRecDepth 100000 in
set_option maxHeartbeats 4000000 in
theorem bX6_join_0 {p : Program} {l : Launch} {e : Env} {s : State} {m : MethodId} {args : Array Value} {below : List Frame} {meth : Method} {c : Code} {D : va_G} {cy : Nat → ClassId} {ad : Nat → Nat} {ba : Nat} {O : Int64} {S : teS}  {x1 : Int32} {x2 : Int32} {x3 : Int32} {res : (Int32 × teS)} (X : teC wsX6_join RX6 cX6_join 8 (some .int) D cy ba p s m args meth c) (H : Heap) (locs : List Loc) (ls : Array Slot) (hR : teR D cy ad ba O S H) (hS : va_S (teA ba) s.heap H locs) (hl : lv_has ls 8 [(0, .ref (ad 369)), (1, .int x1), (2, .int x2), (3, .int x3)]) (hf : fX6_join x1 x2 x3 S = some res) : W p l e (headSpec wsX6_join rmX6_join).room s m args below meth c H locs 0 0 (MQ below (va_Qi (fun a (u : teS) => a = res.1 ∧ u = res.2) (fun u t => teR D cy ad ba O u t.heap) (teA ba)) args s 0 0 (teA ba)) (F0 m 0 ls []) := by
  have hx := X.1
  have hb := X.2.1
  have hown := X.2.2.2.2.1
  unfold fX6_join at hf
  refine lv_iload_n hx hb dX6_join_0 rfl (lv_at hl 1 rfl) ?_
  refine lv_i2l hx hb dX6_join_1 rfl ?_
  refine lv_lconst (v := (0 : Int64)) hx hb dX6_join_2 (by decide) ?_
  refine lv_ldc2 (v := (3 : Int64)) hx hb hown (X.2.2.2.2.2.1 _ wX6_join_155) dX6_join_3 ?_
  obtain ⟨r_1, hq_2, hf⟩ := bd1_some hf
  refine kSi (As := [.long (x1).toInt64, .long (0 : Int64), .long (3 : Int64)]) (rest := []) X hR hS (zcX6_in l D cy ad ba O S ((x1).toInt64) (0 : Int64) (3 : Int64) _ hq_2) (va_cwS 3 X.2.2.2.2.2.1 gX6_join_X6_in rfl rfl rfl kdX6_in.2 ⟨(Nat.le_of_ble_eq_true rfl), (Nat.le_of_ble_eq_true rfl)⟩)  rfl rfl hl.1 (Nat.le_of_ble_eq_true rfl) ⟨(Nat.le_of_ble_eq_true rfl), (Nat.le_of_ble_eq_true rfl)⟩ dX6_join_6 (fun H locs hR hS => ?_)
  refine lv_if_eq (tgt := 42) hx hb dX6_join_9 (by decide) (fun c_3 => ?_) (fun c_3 => ?_)
  · replace hf := ite_t c_3 hf
    refine lv_iconst (v := (0 : Int32)) hx hb dX6_join_42 (by decide) ?_
    exact bX6_join_43 (S := S) (x1 := x1) (x2 := x2) (x3 := x3) X S ((0 : Int32)) _ _ _ hR hS (lv_sub hl [0, 1, 2, 3] rfl) hf
  · replace hf := ite_f c_3 hf
    refine lv_iload_n hx hb dX6_join_12 rfl (lv_at hl 2 rfl) ?_
    refine lv_i2l hx hb dX6_join_13 rfl ?_
    refine lv_lconst (v := (0 : Int64)) hx hb dX6_join_14 (by decide) ?_
    refine lv_ldc2 (v := (9999 : Int64)) hx hb hown (X.2.2.2.2.2.1 _ wX6_join_157) dX6_join_15 ?_
    obtain ⟨r_4, hq_5, hf⟩ := bd1_some hf
    refine kSi (As := [.long (x2).toInt64, .long (0 : Int64), .long (9999 : Int64)]) (rest := []) X hR hS (zcX6_in l D cy ad ba O S ((x2).toInt64) (0 : Int64) (9999 : Int64) _ hq_5) (va_cwS 3 X.2.2.2.2.2.1 gX6_join_X6_in rfl rfl rfl kdX6_in.2 ⟨(Nat.le_of_ble_eq_true rfl), (Nat.le_of_ble_eq_true rfl)⟩)  rfl rfl hl.1 (Nat.le_of_ble_eq_true rfl) ⟨(Nat.le_of_ble_eq_true rfl), (Nat.le_of_ble_eq_true rfl)⟩ dX6_join_18 (fun H locs hR hS => ?_)
    refine lv_if_eq (tgt := 42) hx hb dX6_join_21 (by decide) (fun c_6 => ?_) (fun c_6 => ?_)
    · replace hf := ite_t c_6 hf
      refine lv_iconst (v := (0 : Int32)) hx hb dX6_join_42 (by decide) ?_
      exact bX6_join_43 (S := S) (x1 := x1) (x2 := x2) (x3 := x3) X S ((0 : Int32)) _ _ _ hR hS (lv_sub hl [0, 1, 2, 3] rfl) hf
    · replace hf := ite_f c_6 hf
      refine lv_iload_n hx hb dX6_join_24 rfl (lv_at hl 3 rfl) ?_
      refine lv_i2l hx hb dX6_join_25 rfl ?_
      refine lv_ldc2 (v := (-99 : Int64)) hx hb hown (X.2.2.2.2.2.1 _ wX6_join_159) dX6_join_26 ?_
      refine lv_ldc2 (v := (99 : Int64)) hx hb hown (X.2.2.2.2.2.1 _ wX6_join_161) dX6_join_29 ?_
      obtain ⟨r_7, hq_8, hf⟩ := bd1_some hf
      refine kSi (As := [.long (x3).toInt64, .long (-99 : Int64), .long (99 : Int64)]) (rest := []) X hR hS (zcX6_in l D cy ad ba O S ((x3).toInt64) (-99 : Int64) (99 : Int64) _ hq_8) (va_cwS 3 X.2.2.2.2.2.1 gX6_join_X6_in rfl rfl rfl kdX6_in.2 ⟨(Nat.le_of_ble_eq_true rfl), (Nat.le_of_ble_eq_true rfl)⟩)  rfl rfl hl.1 (Nat.le_of_ble_eq_true rfl) ⟨(Nat.le_of_ble_eq_true rfl), (Nat.le_of_ble_eq_true rfl)⟩ dX6_join_32 (fun H locs hR hS => ?_)
      refine lv_if_eq (tgt := 42) hx hb dX6_join_35 (by decide) (fun c_9 => ?_) (fun c_9 => ?_)
      · replace hf := ite_t c_9 hf
        refine lv_iconst (v := (0 : Int32)) hx hb dX6_join_42 (by decide) ?_
        exact bX6_join_43 (S := S) (x1 := x1) (x2 := x2) (x3 := x3) X S ((0 : Int32)) _ _ _ hR hS (lv_sub hl [0, 1, 2, 3] rfl) hf
      · replace hf := ite_f c_9 hf
        refine lv_iconst (v := (1 : Int32)) hx hb dX6_join_38 (by decide) ?_
        refine lv_goto (tgt := 43) hx hb dX6_join_39 (by decide) ?_
        exact bX6_join_43 (S := S) (x1 := x1) (x2 := x2) (x3 := x3) X S ((1 : Int32)) _ _ _ hR hS (lv_sub hl [0, 1, 2, 3] rfl) hf
theorem zcX6_join (l : Launch) (D : va_G) (cy : Nat → ClassId) (ad : Nat → Nat) (ba : Nat) (O : Int64) (S : teS) (x1 : Int32) (x2 : Int32) (x3 : Int32) (r : Int32) (S1 : teS) (hf : fX6_join x1 x2 x3 S = some (r, S1)) : cI l yX6_join wsX6_join rmX6_join D cy ad ba O S [.ref (ad 369), .int x1, .int x2, .int x3] r S1 :=
  te_of (by decide) rfl (Nat.le_of_ble_eq_true rfl) (fun p e s m below meth c ls X hR hS hl => bX6_join_0 (res := (r, S1)) (S := S) (x1 := x1) (x2 := x2) (x3 := x3) X _ _ _ hR hS hl hf)
abbrev rmX6_leave : Room := { frames := 3, cells := 0, slots := 0, locals := 63 }
theorem kdX6_leave : yX6_leave.cls = RX6 ∧ yX6_leave.cls ≠ "java/lang/invoke/MethodHandle" ∧ yX6_leave.cls ≠ "java/lang/invoke/VarHandle" ∧ (parseMethodDescriptor yX6_leave.desc).map (fun d => d.parameters.length) = some 1 := by decide +kernel
theorem wX6_leave_16 : Cond.fieldLink RX6 16 "TandemExchangeModel" "now" "[I" ∈ wsX6_leave := by decide +kernel
theorem iX6_leave_6 : ∀ w ∈ wsX60, w ∈ wsX6_leave := by decide +kernel
set_option maxRecDepth 100000 in
set_option maxHeartbeats 4000000 in
theorem bX6_leave_97 {p : Program} {l : Launch} {e : Env} {s : State} {m : MethodId} {args : Array Value} {below : List Frame} {meth : Method} {c : Code} {D : va_G} {cy : Nat → ClassId} {ad : Nat → Nat} {ba : Nat} {O : Int64} {S : teS}  {x1 : Int32} {res : (Int32 × teS)} (X : teC wsX6_leave RX6 cX6_leave 5 (some .int) D cy ba p s m args meth c) : ∀ (n : Nat), ∀ (S1 : teS) (v2 : Int32) (v3 : Int32) (H : Heap) (locs : List Loc) (ls : Array Slot), teR D cy ad ba O S1 H → va_S (teA ba) s.heap H locs → lv_has ls 5 [(0, .ref (ad 369)), (1, .int x1), (2, .int v2), (3, .int v3)] → fX6_leave_97 x1 n S1 v2 v3 = some res → W p l e (headSpec wsX6_leave rmX6_leave).room s m args below meth c H locs 0 0 (MQ below (va_Qi (fun a (u : teS) => a = res.1 ∧ u = res.2) (fun u t => teR D cy ad ba O u t.heap) (teA ba)) args s 0 0 (teA ba)) (F0 m 97 ls []) := by
  have hx := X.1
  have hb := X.2.1
  have hown := X.2.2.2.2.1
  intro n
  induction n with
  | zero =>
    intro S1 v2 v3 H locs ls hR hS hl hf
    exact nomatch hf
  | succ n ih =>
    intro S1 v2 v3 H locs ls hR hS hl hf
    unfold fX6_leave_97 at hf
    refine lv_iload_n hx hb dX6_leave_97 rfl (lv_at hl 3 rfl) ?_
    refine lv_aload_n hx hb dX6_leave_98 rfl (lv_at hl 0 rfl) ?_
    refine rg_6_5 X hR iX6_leave_6 wX6_leave_16 dX6_leave_99 ?_
    refine lv_iconst (v := (0 : Int32)) hx hb dX6_leave_102 (by decide) ?_
    obtain ⟨h_20, hf⟩ := chk_some hf
    refine ra_int X hR (r := 372) rfl h_20 dX6_leave_103 ?_
    refine lv_icmp_ge (tgt := 154) hx hb dX6_leave_104 (by decide) (fun c_21 => ?_) (fun c_21 => ?_)
    · replace hf := ite_t c_21 hf
      refine lv_iload_n hx hb dX6_leave_154 rfl (lv_at hl 2 rfl) ?_
      exact eI X hR hS (congrArg Prod.fst (Option.some.inj hf)) (congrArg Prod.snd (Option.some.inj hf)) dX6_leave_155
    · replace hf := ite_f c_21 hf
      refine lv_aload_n hx hb dX6_leave_107 rfl (lv_at hl 0 rfl) ?_
      refine rg_6_5 X hR iX6_leave_6 wX6_leave_16 dX6_leave_108 ?_
      refine lv_iload_n hx hb dX6_leave_111 rfl (lv_at hl 3 rfl) ?_
      obtain ⟨r_22, hq_23, hf⟩ := bd1_some hf
      refine kSi (As := [.int v3]) (rest := [.ref (ad 372)]) X hR hS (zcX6_at l D cy ad ba O S1 v3 _ hq_23) (va_cwS 1 X.2.2.2.2.2.1 gX6_leave_X6_at rfl rfl rfl kdX6_at.2 ⟨(Nat.le_of_ble_eq_true rfl), (Nat.le_of_ble_eq_true rfl)⟩)  rfl rfl hl.1 (Nat.le_of_ble_eq_true rfl) ⟨(Nat.le_of_ble_eq_true rfl), (Nat.le_of_ble_eq_true rfl)⟩ dX6_leave_112 (fun H locs hR hS => ?_)
      refine lv_bipush (v := (8 : Int32)) hx hb dX6_leave_115 (by decide) ?_
      refine lv_iadd hx hb dX6_leave_117 ?_
      obtain ⟨h_24, hf⟩ := chk_some hf
      refine ra_int X hR (r := 372) rfl h_24 dX6_leave_118 ?_
      refine lv_istore (lv' := [(4, .int (S1 372 (r_22 + (8 : Int32)).toNatClampNeg)), (0, .ref (ad 369)), (1, .int x1), (2, .int v2), (3, .int v3)]) hx hb dX6_leave_119 hl (by decide) rfl (fun ls hl => ?_)
      refine lv_aload_n hx hb dX6_leave_121 rfl (lv_at hl 1 rfl) ?_
      refine rg_6_5 X hR iX6_leave_6 wX6_leave_16 dX6_leave_122 ?_
      refine lv_iload_n hx hb dX6_leave_125 rfl (lv_at hl 4 rfl) ?_
      obtain ⟨r_25, hq_26, hf⟩ := bd1_some hf
      refine kSi (As := [.int v3]) (rest := [.ref (ad 372)]) X hR hS (zcX6_at l D cy ad ba O S1 v3 _ hq_26) (va_cwS 1 X.2.2.2.2.2.1 gX6_leave_X6_at rfl rfl rfl kdX6_at.2 ⟨(Nat.le_of_ble_eq_true rfl), (Nat.le_of_ble_eq_true rfl)⟩)  rfl rfl hl.1 (Nat.le_of_ble_eq_true rfl) ⟨(Nat.le_of_ble_eq_true rfl), (Nat.le_of_ble_eq_true rfl)⟩ dX6_leave_126 (fun H locs hR hS => ?_)
      refine lv_bipush (v := (8 : Int32)) hx hb dX6_leave_129 (by decide) ?_
      refine lv_iadd hx hb dX6_leave_131 ?_
      refine lv_iload hx hb dX6_leave_132 (lv_at hl 0 rfl) ?_
      refine lv_iload_n hx hb dX6_leave_134 rfl (lv_at hl 2 rfl) ?_
      refine lv_icmp_le (tgt := 145) hx hb dX6_leave_135 (by decide) (fun c_27 => ?_) (fun c_27 => ?_)
      · replace hf := ite_t c_27 hf
        refine lv_iload hx hb dX6_leave_145 (lv_at hl 0 rfl) ?_
        obtain ⟨h_28, hf⟩ := chk_some hf
        refine rs_int X hR hS (r := 372) rfl h_28 dX6_leave_147 (fun H locs hR hS => ?_)
        generalize teu S1 372 (r_25 + (8 : Int32)).toNatClampNeg (S1 372 (r_22 + (8 : Int32)).toNatClampNeg) = S2 at hf hR
        replace hf := lt1_e hf
        refine lv_iinc (v := (v3 + (1 : Int32))) (lv' := [(3, .int (v3 + (1 : Int32))), (4, .int (S1 372 (r_22 + (8 : Int32)).toNatClampNeg)), (0, .ref (ad 369)), (1, .int x1), (2, .int v2)]) hx hb dX6_leave_148 hl (k := 4) rfl rfl (by decide) rfl (fun ls hl => ?_)
        refine lv_goto (tgt := 97) hx hb dX6_leave_151 (by decide) ?_
        exact ih S2 (v2) ((v3 + (1 : Int32))) _ _ _ hR hS (lv_sub hl [2, 3, 4, 0] rfl) hf
      · replace hf := ite_f c_27 hf
        refine lv_iload hx hb dX6_leave_138 (lv_at hl 0 rfl) ?_
        refine lv_iconst (v := (1 : Int32)) hx hb dX6_leave_140 (by decide) ?_
        refine lv_isub hx hb dX6_leave_141 ?_
        refine lv_goto (tgt := 147) hx hb dX6_leave_142 (by decide) ?_
        obtain ⟨h_29, hf⟩ := chk_some hf
        refine rs_int X hR hS (r := 372) rfl h_29 dX6_leave_147 (fun H locs hR hS => ?_)
        generalize teu S1 372 (r_25 + (8 : Int32)).toNatClampNeg ((S1 372 (r_22 + (8 : Int32)).toNatClampNeg) - (1 : Int32)) = S3 at hf hR
        replace hf := lt1_e hf
        refine lv_iinc (v := (v3 + (1 : Int32))) (lv' := [(3, .int (v3 + (1 : Int32))), (4, .int (S1 372 (r_22 + (8 : Int32)).toNatClampNeg)), (0, .ref (ad 369)), (1, .int x1), (2, .int v2)]) hx hb dX6_leave_148 hl (k := 4) rfl rfl (by decide) rfl (fun ls hl => ?_)
        refine lv_goto (tgt := 97) hx hb dX6_leave_151 (by decide) ?_
        exact ih S3 (v2) ((v3 + (1 : Int32))) _ _ _ hR hS (lv_sub hl [2, 3, 4, 0] rfl) hf
set_option maxRecDepth 100000 in
set_option maxHeartbeats 4000000 in
theorem bX6_leave_55 {p : Program} {l : Launch} {e : Env} {s : State} {m : MethodId} {args : Array Value} {below : List Frame} {meth : Method} {c : Code} {D : va_G} {cy : Nat → ClassId} {ad : Nat → Nat} {ba : Nat} {O : Int64} {S : teS}  {x1 : Int32} {res : (Int32 × teS)} (X : teC wsX6_leave RX6 cX6_leave 5 (some .int) D cy ba p s m args meth c) : ∀ (n : Nat), ∀ (S1 : teS) (v2 : Int32) (v3 : Int32) (H : Heap) (locs : List Loc) (ls : Array Slot), teR D cy ad ba O S1 H → va_S (teA ba) s.heap H locs → lv_has ls 5 [(0, .ref (ad 369)), (1, .int x1), (2, .int v2), (3, .int v3)] → fX6_leave_55 x1 n S1 v2 v3 = some res → W p l e (headSpec wsX6_leave rmX6_leave).room s m args below meth c H locs 0 0 (MQ below (va_Qi (fun a (u : teS) => a = res.1 ∧ u = res.2) (fun u t => teR D cy ad ba O u t.heap) (teA ba)) args s 0 0 (teA ba)) (F0 m 55 ls []) := by
  have hx := X.1
  have hb := X.2.1
  have hown := X.2.2.2.2.1
  intro n
  induction n with
  | zero =>
    intro S1 v2 v3 H locs ls hR hS hl hf
    exact nomatch hf
  | succ n ih =>
    intro S1 v2 v3 H locs ls hR hS hl hf
    unfold fX6_leave_55 at hf
    refine lv_iload_n hx hb dX6_leave_55 rfl (lv_at hl 3 rfl) ?_
    refine lv_bipush (v := (10 : Int32)) hx hb dX6_leave_56 (by decide) ?_
    refine lv_iadd hx hb dX6_leave_58 ?_
    refine lv_bipush (v := (92 : Int32)) hx hb dX6_leave_59 (by decide) ?_
    refine lv_icmp_ge (tgt := 85) hx hb dX6_leave_61 (by decide) (fun c_16 => ?_) (fun c_16 => ?_)
    · replace hf := ite_t c_16 hf
      refine lv_aload_n hx hb dX6_leave_85 rfl (lv_at hl 0 rfl) ?_
      refine rg_6_5 X hR iX6_leave_6 wX6_leave_16 dX6_leave_86 ?_
      refine lv_iconst (v := (0 : Int32)) hx hb dX6_leave_89 (by decide) ?_
      refine lv_dup2_11 hx hb dX6_leave_90 rfl rfl ?_
      obtain ⟨h_17, hf⟩ := chk_some hf
      refine ra_int X hR (r := 372) rfl h_17 dX6_leave_91 ?_
      refine lv_iconst (v := (1 : Int32)) hx hb dX6_leave_92 (by decide) ?_
      refine lv_isub hx hb dX6_leave_93 ?_
      refine rs_int X hR hS (r := 372) rfl h_17 dX6_leave_94 (fun H locs hR hS => ?_)
      generalize teu S1 372 (0 : Int32).toNatClampNeg ((S1 372 (0 : Int32).toNatClampNeg) - (1 : Int32)) = S2 at hf hR
      replace hf := lt1_e hf
      refine lv_iconst (v := (0 : Int32)) hx hb dX6_leave_95 (by decide) ?_
      refine lv_istore_n (lv' := [(3, .int (0 : Int32)), (0, .ref (ad 369)), (1, .int x1), (2, .int v2)]) hx hb dX6_leave_96 rfl hl (by decide) rfl (fun ls hl => ?_)
      exact bX6_leave_97 (S := S) (x1 := x1) X 2000 S2 (v2) ((0 : Int32)) _ _ _ hR hS (lv_sub hl [1, 2, 3, 0] rfl) hf
    · replace hf := ite_f c_16 hf
      refine lv_aload_n hx hb dX6_leave_64 rfl (lv_at hl 0 rfl) ?_
      refine rg_6_5 X hR iX6_leave_6 wX6_leave_16 dX6_leave_65 ?_
      refine lv_iload_n hx hb dX6_leave_68 rfl (lv_at hl 3 rfl) ?_
      refine lv_aload_n hx hb dX6_leave_69 rfl (lv_at hl 0 rfl) ?_
      refine rg_6_5 X hR iX6_leave_6 wX6_leave_16 dX6_leave_70 ?_
      refine lv_iload_n hx hb dX6_leave_73 rfl (lv_at hl 3 rfl) ?_
      refine lv_bipush (v := (10 : Int32)) hx hb dX6_leave_74 (by decide) ?_
      refine lv_iadd hx hb dX6_leave_76 ?_
      obtain ⟨h_18, hf⟩ := chk_some hf
      refine ra_int X hR (r := 372) rfl h_18 dX6_leave_77 ?_
      obtain ⟨h_19, hf⟩ := chk_some hf
      refine rs_int X hR hS (r := 372) rfl h_19 dX6_leave_78 (fun H locs hR hS => ?_)
      generalize teu S1 372 v3.toNatClampNeg (S1 372 (v3 + (10 : Int32)).toNatClampNeg) = S3 at hf hR
      replace hf := lt1_e hf
      refine lv_iinc (v := (v3 + (1 : Int32))) (lv' := [(3, .int (v3 + (1 : Int32))), (0, .ref (ad 369)), (1, .int x1), (2, .int v2)]) hx hb dX6_leave_79 hl (k := 3) rfl rfl (by decide) rfl (fun ls hl => ?_)
      refine lv_goto (tgt := 55) hx hb dX6_leave_82 (by decide) ?_
      exact ih S3 (v2) ((v3 + (1 : Int32))) _ _ _ hR hS (lv_sub hl [1, 2, 3, 0] rfl) hf
set_option maxRecDepth 100000 in
set_option maxHeartbeats 4000000 in
theorem bX6_leave_17 {p : Program} {l : Launch} {e : Env} {s : State} {m : MethodId} {args : Array Value} {below : List Frame} {meth : Method} {c : Code} {D : va_G} {cy : Nat → ClassId} {ad : Nat → Nat} {ba : Nat} {O : Int64} {S : teS}  {x1 : Int32} {res : (Int32 × teS)} (X : teC wsX6_leave RX6 cX6_leave 5 (some .int) D cy ba p s m args meth c) : ∀ (S1 : teS) (y0 : Int32) (H : Heap) (locs : List Loc) (ls : Array Slot), teR D cy ad ba O S1 H → va_S (teA ba) s.heap H locs → lv_has ls 5 [(0, .ref (ad 369)), (1, .int x1)] → fX6_leave_17 x1 S1 y0 = some res → W p l e (headSpec wsX6_leave rmX6_leave).room s m args below meth c H locs 0 0 (MQ below (va_Qi (fun a (u : teS) => a = res.1 ∧ u = res.2) (fun u t => teR D cy ad ba O u t.heap) (teA ba)) args s 0 0 (teA ba)) (F0 m 17 ls [.int y0, .ref (ad 369)]) := by
  have hx := X.1
  have hb := X.2.1
  have hown := X.2.2.2.2.1
  intro S1 y0 H locs ls hR hS hl hf
  unfold fX6_leave_17 at hf
  obtain ⟨r_4, S2, hq_5, hf⟩ := bd2_some hf
  refine kVi (id := 369) (As := [.int y0]) (rest := []) X hR hS (zcX6_refused l D cy ad ba O S1 y0 _ _ hq_5) (cwV 1 X.2.2.2.2.2.1 gX6_leave_X6_refused rfl rfl rfl kdX6_refused ⟨(Nat.le_of_ble_eq_true rfl), (Nat.le_of_ble_eq_true rfl)⟩) (by decide) rfl rfl rfl rfl hl.1 (Nat.le_of_ble_eq_true rfl) ⟨(Nat.le_of_ble_eq_true rfl), (Nat.le_of_ble_eq_true rfl)⟩ dX6_leave_17 (fun H locs hR hS => ?_)
  refine lv_if_eq (tgt := 25) hx hb dX6_leave_20 (by decide) (fun c_6 => ?_) (fun c_6 => ?_)
  · replace hf := ite_t c_6 hf
    refine lv_aload_n hx hb dX6_leave_25 rfl (lv_at hl 0 rfl) ?_
    obtain ⟨S3, hq_8, hf⟩ := bd1_some hf
    refine kVv (id := 369) (As := []) (rest := []) X hR hS (zcX6_note l D cy ad ba O S2 _ hq_8) (cwV 0 X.2.2.2.2.2.1 gX6_leave_X6_note rfl rfl rfl kdX6_note ⟨(Nat.le_of_ble_eq_true rfl), (Nat.le_of_ble_eq_true rfl)⟩) (by decide) rfl rfl rfl rfl hl.1 (Nat.le_of_ble_eq_true rfl) ⟨(Nat.le_of_ble_eq_true rfl), (Nat.le_of_ble_eq_true rfl)⟩ dX6_leave_26 (fun H locs hR hS => ?_)
    refine lv_aload_n hx hb dX6_leave_29 rfl (lv_at hl 0 rfl) ?_
    refine rg_6_5 X hR iX6_leave_6 wX6_leave_16 dX6_leave_30 ?_
    refine lv_iload_n hx hb dX6_leave_33 rfl (lv_at hl 1 rfl) ?_
    obtain ⟨r_9, hq_10, hf⟩ := bd1_some hf
    refine kSi (As := [.int x1]) (rest := [.ref (ad 372)]) X hR hS (zcX6_at l D cy ad ba O S3 x1 _ hq_10) (va_cwS 1 X.2.2.2.2.2.1 gX6_leave_X6_at rfl rfl rfl kdX6_at.2 ⟨(Nat.le_of_ble_eq_true rfl), (Nat.le_of_ble_eq_true rfl)⟩)  rfl rfl hl.1 (Nat.le_of_ble_eq_true rfl) ⟨(Nat.le_of_ble_eq_true rfl), (Nat.le_of_ble_eq_true rfl)⟩ dX6_leave_34 (fun H locs hR hS => ?_)
    refine lv_bipush (v := (6 : Int32)) hx hb dX6_leave_37 (by decide) ?_
    refine lv_iadd hx hb dX6_leave_39 ?_
    obtain ⟨h_11, hf⟩ := chk_some hf
    refine ra_int X hR (r := 372) rfl h_11 dX6_leave_40 ?_
    refine lv_istore_n (lv' := [(2, .int (S3 372 (r_9 + (6 : Int32)).toNatClampNeg)), (0, .ref (ad 369)), (1, .int x1)]) hx hb dX6_leave_41 rfl hl (by decide) rfl (fun ls hl => ?_)
    refine lv_aload_n hx hb dX6_leave_42 rfl (lv_at hl 1 rfl) ?_
    refine rg_6_5 X hR iX6_leave_6 wX6_leave_16 dX6_leave_43 ?_
    refine lv_iload_n hx hb dX6_leave_46 rfl (lv_at hl 2 rfl) ?_
    obtain ⟨S4, hq_13, hf⟩ := bd1_some hf
    refine kSv (As := [.ref (ad 372), .int x1]) (rest := []) X hR hS (zcX6_partOn l D cy ad ba O S3 372 x1 rfl _ hq_13) (va_cwS 2 X.2.2.2.2.2.1 gX6_leave_X6_partOn rfl rfl rfl kdX6_partOn.2 ⟨(Nat.le_of_ble_eq_true rfl), (Nat.le_of_ble_eq_true rfl)⟩)  rfl rfl hl.1 (Nat.le_of_ble_eq_true rfl) ⟨(Nat.le_of_ble_eq_true rfl), (Nat.le_of_ble_eq_true rfl)⟩ dX6_leave_47 (fun H locs hR hS => ?_)
    refine lv_iload_n hx hb dX6_leave_50 rfl (lv_at hl 2 rfl) ?_
    obtain ⟨r_14, hq_15, hf⟩ := bd1_some hf
    refine kSi (As := [.int x1]) (rest := []) X hR hS (zcX6_at l D cy ad ba O S4 x1 _ hq_15) (va_cwS 1 X.2.2.2.2.2.1 gX6_leave_X6_at rfl rfl rfl kdX6_at.2 ⟨(Nat.le_of_ble_eq_true rfl), (Nat.le_of_ble_eq_true rfl)⟩)  rfl rfl hl.1 (Nat.le_of_ble_eq_true rfl) ⟨(Nat.le_of_ble_eq_true rfl), (Nat.le_of_ble_eq_true rfl)⟩ dX6_leave_51 (fun H locs hR hS => ?_)
    refine lv_istore_n (lv' := [(3, .int r_14), (2, .int (S3 372 (r_9 + (6 : Int32)).toNatClampNeg)), (0, .ref (ad 369)), (1, .int x1)]) hx hb dX6_leave_54 rfl hl (by decide) rfl (fun ls hl => ?_)
    exact bX6_leave_55 (S := S) (x1 := x1) X 2000 S4 ((S3 372 (r_9 + (6 : Int32)).toNatClampNeg)) (r_14) _ _ _ hR hS (lv_sub hl [2, 3, 1, 0] rfl) hf
  · replace hf := ite_f c_6 hf
    refine lv_iconst (v := (0 : Int32)) hx hb dX6_leave_23 (by decide) ?_
    exact eI X hR hS (congrArg Prod.fst (Option.some.inj hf)) (congrArg Prod.snd (Option.some.inj hf)) dX6_leave_24
set_option maxRecDepth 100000 in
set_option maxHeartbeats 4000000 in
theorem bX6_leave_0 {p : Program} {l : Launch} {e : Env} {s : State} {m : MethodId} {args : Array Value} {below : List Frame} {meth : Method} {c : Code} {D : va_G} {cy : Nat → ClassId} {ad : Nat → Nat} {ba : Nat} {O : Int64} {S : teS}  {x1 : Int32} {res : (Int32 × teS)} (X : teC wsX6_leave RX6 cX6_leave 5 (some .int) D cy ba p s m args meth c) (H : Heap) (locs : List Loc) (ls : Array Slot) (hR : teR D cy ad ba O S H) (hS : va_S (teA ba) s.heap H locs) (hl : lv_has ls 5 [(0, .ref (ad 369)), (1, .int x1)]) (hf : fX6_leave x1 S = some res) : W p l e (headSpec wsX6_leave rmX6_leave).room s m args below meth c H locs 0 0 (MQ below (va_Qi (fun a (u : teS) => a = res.1 ∧ u = res.2) (fun u t => teR D cy ad ba O u t.heap) (teA ba)) args s 0 0 (teA ba)) (F0 m 0 ls []) := by
  have hx := X.1
  have hb := X.2.1
  have hown := X.2.2.2.2.1
  unfold fX6_leave at hf
  refine lv_aload_n hx hb dX6_leave_0 rfl (lv_at hl 0 rfl) ?_
  refine lv_aload_n hx hb dX6_leave_1 rfl (lv_at hl 0 rfl) ?_
  refine rg_6_5 X hR iX6_leave_6 wX6_leave_16 dX6_leave_2 ?_
  refine lv_iload_n hx hb dX6_leave_5 rfl (lv_at hl 1 rfl) ?_
  obtain ⟨r_1, hq_2, hf⟩ := bd1_some hf
  refine kSi (As := [.ref (ad 372), .int x1]) (rest := [.ref (ad 369)]) X hR hS (zcX6_isMember l D cy ad ba O S 372 x1 rfl _ hq_2) (va_cwS 2 X.2.2.2.2.2.1 gX6_leave_X6_isMember rfl rfl rfl kdX6_isMember.2 ⟨(Nat.le_of_ble_eq_true rfl), (Nat.le_of_ble_eq_true rfl)⟩)  rfl rfl hl.1 (Nat.le_of_ble_eq_true rfl) ⟨(Nat.le_of_ble_eq_true rfl), (Nat.le_of_ble_eq_true rfl)⟩ dX6_leave_6 (fun H locs hR hS => ?_)
  refine lv_if_eq (tgt := 16) hx hb dX6_leave_9 (by decide) (fun c_3 => ?_) (fun c_3 => ?_)
  · replace hf := ite_t c_3 hf
    refine lv_iconst (v := (1 : Int32)) hx hb dX6_leave_16 (by decide) ?_
    exact bX6_leave_17 (S := S) (x1 := x1) X S ((1 : Int32)) _ _ _ hR hS (lv_sub hl [0, 1] rfl) hf
  · replace hf := ite_f c_3 hf
    refine lv_iconst (v := (0 : Int32)) hx hb dX6_leave_12 (by decide) ?_
    refine lv_goto (tgt := 17) hx hb dX6_leave_13 (by decide) ?_
    exact bX6_leave_17 (S := S) (x1 := x1) X S ((0 : Int32)) _ _ _ hR hS (lv_sub hl [0, 1] rfl) hf
theorem zcX6_leave (l : Launch) (D : va_G) (cy : Nat → ClassId) (ad : Nat → Nat) (ba : Nat) (O : Int64) (S : teS) (x1 : Int32) (r : Int32) (S1 : teS) (hf : fX6_leave x1 S = some (r, S1)) : cI l yX6_leave wsX6_leave rmX6_leave D cy ad ba O S [.ref (ad 369), .int x1] r S1 :=
  te_of (by decide) rfl (Nat.le_of_ble_eq_true rfl) (fun p e s m below meth c ls X hR hS hl => bX6_leave_0 (res := (r, S1)) (S := S) (x1 := x1) X _ _ _ hR hS hl hf)
abbrev rmX6_isTongue : Room := { frames := 1, cells := 0, slots := 0, locals := 25 }
theorem kdX6_isTongue : yX6_isTongue.cls = RX6 ∧ yX6_isTongue.cls ≠ "java/lang/invoke/MethodHandle" ∧ yX6_isTongue.cls ≠ "java/lang/invoke/VarHandle" ∧ (parseMethodDescriptor yX6_isTongue.desc).map (fun d => d.parameters.length) = some 1 := by decide +kernel
theorem wX6_isTongue_155 : Cond.constantLong RX6 155 (3) ∈ wsX6_isTongue := by decide +kernel
set_option maxRecDepth 100000 in
set_option maxHeartbeats 4000000 in
theorem bX6_isTongue_0 {p : Program} {l : Launch} {e : Env} {s : State} {m : MethodId} {args : Array Value} {below : List Frame} {meth : Method} {c : Code} {D : va_G} {cy : Nat → ClassId} {ad : Nat → Nat} {ba : Nat} {O : Int64} {S : teS}  {x0 : Int32} {res : Int32} (X : teC wsX6_isTongue RX6 cX6_isTongue 1 (some .boolean) D cy ba p s m args meth c) (H : Heap) (locs : List Loc) (ls : Array Slot) (hR : teR D cy ad ba O S H) (hS : va_S (teA ba) s.heap H locs) (hl : lv_has ls 1 [(0, .int x0)]) (hf : fX6_isTongue x0 S = some res) : W p l e (headSpec wsX6_isTongue rmX6_isTongue).room s m args below meth c H locs 0 0 (MQ below (va_Qi (fun a (u : teS) => a = res ∧ u = S) (fun u t => teR D cy ad ba O u t.heap) (teA ba)) args s 0 0 (teA ba)) (F0 m 0 ls []) := by
  have hx := X.1
  have hb := X.2.1
  have hown := X.2.2.2.2.1
  unfold fX6_isTongue at hf
  refine lv_iload_n hx hb dX6_isTongue_0 rfl (lv_at hl 0 rfl) ?_
  refine lv_i2l hx hb dX6_isTongue_1 rfl ?_
  refine lv_lconst (v := (0 : Int64)) hx hb dX6_isTongue_2 (by decide) ?_
  refine lv_ldc2 (v := (3 : Int64)) hx hb hown (X.2.2.2.2.2.1 _ wX6_isTongue_155) dX6_isTongue_3 ?_
  obtain ⟨r_1, hq_2, hf⟩ := bd1_some hf
  refine kSi (As := [.long (x0).toInt64, .long (0 : Int64), .long (3 : Int64)]) (rest := []) X hR hS (zcX6_in l D cy ad ba O S ((x0).toInt64) (0 : Int64) (3 : Int64) _ hq_2) (va_cwS 3 X.2.2.2.2.2.1 gX6_isTongue_X6_in rfl rfl rfl kdX6_in.2 ⟨(Nat.le_of_ble_eq_true rfl), (Nat.le_of_ble_eq_true rfl)⟩)  rfl rfl hl.1 (Nat.le_of_ble_eq_true rfl) ⟨(Nat.le_of_ble_eq_true rfl), (Nat.le_of_ble_eq_true rfl)⟩ dX6_isTongue_6 (fun H locs hR hS => ?_)
  obtain ⟨h_3, hf⟩ := chk_some hf
  exact eZ X hR hS (of_decide_eq_true h_3) (Option.some.inj hf) rfl dX6_isTongue_9
theorem zcX6_isTongue (l : Launch) (D : va_G) (cy : Nat → ClassId) (ad : Nat → Nat) (ba : Nat) (O : Int64) (S : teS) (x0 : Int32) (res : Int32) (hf : fX6_isTongue x0 S = some res) : cI l yX6_isTongue wsX6_isTongue rmX6_isTongue D cy ad ba O S [.int x0] res S :=
  te_of (by decide +kernel) rfl (Nat.le_of_ble_eq_true rfl) (fun p e s m below meth c ls X hR hS hl => bX6_isTongue_0 (S := S) (x0 := x0) X _ _ _ hR hS hl hf)
abbrev rmX6_want : Room := { frames := 4, cells := 0, slots := 0, locals := 87 }
theorem kdX6_want : yX6_want.cls = RX6 ∧ yX6_want.cls ≠ "java/lang/invoke/MethodHandle" ∧ yX6_want.cls ≠ "java/lang/invoke/VarHandle" ∧ (parseMethodDescriptor yX6_want.desc).map (fun d => d.parameters.length) = some 2 := by decide +kernel
theorem wX6_want_16 : Cond.fieldLink RX6 16 "TandemExchangeModel" "now" "[I" ∈ wsX6_want := by decide +kernel
theorem iX6_want_6 : ∀ w ∈ wsX60, w ∈ wsX6_want := by decide +kernel
set_option maxRecDepth 100000 in
set_option maxHeartbeats 4000000 in
theorem bX6_want_28 {p : Program} {l : Launch} {e : Env} {s : State} {m : MethodId} {args : Array Value} {below : List Frame} {meth : Method} {c : Code} {D : va_G} {cy : Nat → ClassId} {ad : Nat → Nat} {ba : Nat} {O : Int64} {S : teS}  {x1 : Int32} {x2 : Int32} {res : (Int32 × teS)} (X : teC wsX6_want RX6 cX6_want 4 (some .int) D cy ba p s m args meth c) : ∀ (S1 : teS) (y0 : Int32) (H : Heap) (locs : List Loc) (ls : Array Slot), teR D cy ad ba O S1 H → va_S (teA ba) s.heap H locs → lv_has ls 4 [(0, .ref (ad 369)), (1, .int x1), (2, .int x2)] → fX6_want_28 x1 x2 S1 y0 = some res → W p l e (headSpec wsX6_want rmX6_want).room s m args below meth c H locs 0 0 (MQ below (va_Qi (fun a (u : teS) => a = res.1 ∧ u = res.2) (fun u t => teR D cy ad ba O u t.heap) (teA ba)) args s 0 0 (teA ba)) (F0 m 28 ls [.int y0, .ref (ad 369)]) := by
  have hx := X.1
  have hb := X.2.1
  have hown := X.2.2.2.2.1
  intro S1 y0 H locs ls hR hS hl hf
  unfold fX6_want_28 at hf
  obtain ⟨r_7, S2, hq_8, hf⟩ := bd2_some hf
  refine kVi (id := 369) (As := [.int y0]) (rest := []) X hR hS (zcX6_refused l D cy ad ba O S1 y0 _ _ hq_8) (cwV 1 X.2.2.2.2.2.1 gX6_want_X6_refused rfl rfl rfl kdX6_refused ⟨(Nat.le_of_ble_eq_true rfl), (Nat.le_of_ble_eq_true rfl)⟩) (by decide) rfl rfl rfl rfl hl.1 (Nat.le_of_ble_eq_true rfl) ⟨(Nat.le_of_ble_eq_true rfl), (Nat.le_of_ble_eq_true rfl)⟩ dX6_want_28 (fun H locs hR hS => ?_)
  refine lv_if_eq (tgt := 36) hx hb dX6_want_31 (by decide) (fun c_9 => ?_) (fun c_9 => ?_)
  · replace hf := ite_t c_9 hf
    refine lv_aload_n hx hb dX6_want_36 rfl (lv_at hl 0 rfl) ?_
    obtain ⟨S3, hq_11, hf⟩ := bd1_some hf
    refine kVv (id := 369) (As := []) (rest := []) X hR hS (zcX6_note l D cy ad ba O S2 _ hq_11) (cwV 0 X.2.2.2.2.2.1 gX6_want_X6_note rfl rfl rfl kdX6_note ⟨(Nat.le_of_ble_eq_true rfl), (Nat.le_of_ble_eq_true rfl)⟩) (by decide) rfl rfl rfl rfl hl.1 (Nat.le_of_ble_eq_true rfl) ⟨(Nat.le_of_ble_eq_true rfl), (Nat.le_of_ble_eq_true rfl)⟩ dX6_want_37 (fun H locs hR hS => ?_)
    refine lv_aload_n hx hb dX6_want_40 rfl (lv_at hl 0 rfl) ?_
    refine rg_6_5 X hR iX6_want_6 wX6_want_16 dX6_want_41 ?_
    refine lv_iload_n hx hb dX6_want_44 rfl (lv_at hl 1 rfl) ?_
    obtain ⟨r_12, hq_13, hf⟩ := bd1_some hf
    refine kSi (As := [.int x1]) (rest := [.ref (ad 372)]) X hR hS (zcX6_at l D cy ad ba O S3 x1 _ hq_13) (va_cwS 1 X.2.2.2.2.2.1 gX6_want_X6_at rfl rfl rfl kdX6_at.2 ⟨(Nat.le_of_ble_eq_true rfl), (Nat.le_of_ble_eq_true rfl)⟩)  rfl rfl hl.1 (Nat.le_of_ble_eq_true rfl) ⟨(Nat.le_of_ble_eq_true rfl), (Nat.le_of_ble_eq_true rfl)⟩ dX6_want_45 (fun H locs hR hS => ?_)
    refine lv_iconst (v := (4 : Int32)) hx hb dX6_want_48 (by decide) ?_
    refine lv_iadd hx hb dX6_want_49 ?_
    obtain ⟨h_14, hf⟩ := chk_some hf
    refine ra_int X hR (r := 372) rfl h_14 dX6_want_50 ?_
    refine lv_istore_n (lv' := [(3, .int (S3 372 (r_12 + (4 : Int32)).toNatClampNeg)), (0, .ref (ad 369)), (1, .int x1), (2, .int x2)]) hx hb dX6_want_51 rfl hl (by decide) rfl (fun ls hl => ?_)
    refine lv_aload_n hx hb dX6_want_52 rfl (lv_at hl 1 rfl) ?_
    refine rg_6_5 X hR iX6_want_6 wX6_want_16 dX6_want_53 ?_
    refine lv_iload_n hx hb dX6_want_56 rfl (lv_at hl 2 rfl) ?_
    obtain ⟨r_15, hq_16, hf⟩ := bd1_some hf
    refine kSi (As := [.int x1]) (rest := [.ref (ad 372)]) X hR hS (zcX6_at l D cy ad ba O S3 x1 _ hq_16) (va_cwS 1 X.2.2.2.2.2.1 gX6_want_X6_at rfl rfl rfl kdX6_at.2 ⟨(Nat.le_of_ble_eq_true rfl), (Nat.le_of_ble_eq_true rfl)⟩)  rfl rfl hl.1 (Nat.le_of_ble_eq_true rfl) ⟨(Nat.le_of_ble_eq_true rfl), (Nat.le_of_ble_eq_true rfl)⟩ dX6_want_57 (fun H locs hR hS => ?_)
    refine lv_iconst (v := (4 : Int32)) hx hb dX6_want_60 (by decide) ?_
    refine lv_iadd hx hb dX6_want_61 ?_
    refine lv_iload_n hx hb dX6_want_62 rfl (lv_at hl 3 rfl) ?_
    obtain ⟨h_17, hf⟩ := chk_some hf
    refine rs_int X hR hS (r := 372) rfl h_17 dX6_want_63 (fun H locs hR hS => ?_)
    generalize teu S3 372 (r_15 + (4 : Int32)).toNatClampNeg x2 = S4 at hf hR
    replace hf := lt1_e hf
    refine lv_aload_n hx hb dX6_want_64 rfl (lv_at hl 1 rfl) ?_
    refine rg_6_5 X hR iX6_want_6 wX6_want_16 dX6_want_65 ?_
    refine lv_iload_n hx hb dX6_want_68 rfl (lv_at hl 2 rfl) ?_
    obtain ⟨r_18, hq_19, hf⟩ := bd1_some hf
    refine kSi (As := [.int x1]) (rest := [.ref (ad 372)]) X hR hS (zcX6_at l D cy ad ba O S4 x1 _ hq_19) (va_cwS 1 X.2.2.2.2.2.1 gX6_want_X6_at rfl rfl rfl kdX6_at.2 ⟨(Nat.le_of_ble_eq_true rfl), (Nat.le_of_ble_eq_true rfl)⟩)  rfl rfl hl.1 (Nat.le_of_ble_eq_true rfl) ⟨(Nat.le_of_ble_eq_true rfl), (Nat.le_of_ble_eq_true rfl)⟩ dX6_want_69 (fun H locs hR hS => ?_)
    refine lv_iconst (v := (5 : Int32)) hx hb dX6_want_72 (by decide) ?_
    refine lv_iadd hx hb dX6_want_73 ?_
    refine lv_iconst (v := (0 : Int32)) hx hb dX6_want_74 (by decide) ?_
    obtain ⟨h_20, hf⟩ := chk_some hf
    refine rs_int X hR hS (r := 372) rfl h_20 dX6_want_75 (fun H locs hR hS => ?_)
    generalize teu S4 372 (r_18 + (5 : Int32)).toNatClampNeg (0 : Int32) = S5 at hf hR
    replace hf := lt1_e hf
    refine lv_aload_n hx hb dX6_want_76 rfl (lv_at hl 1 rfl) ?_
    refine rg_6_5 X hR iX6_want_6 wX6_want_16 dX6_want_77 ?_
    refine lv_iload_n hx hb dX6_want_80 rfl (lv_at hl 2 rfl) ?_
    obtain ⟨S6, hq_22, hf⟩ := bd1_some hf
    refine kSv (As := [.ref (ad 372), .int x1]) (rest := []) X hR hS (zcX6_mend l D cy ad ba O S5 372 x1 rfl _ hq_22) (va_cwS 2 X.2.2.2.2.2.1 gX6_want_X6_mend rfl rfl rfl kdX6_mend.2 ⟨(Nat.le_of_ble_eq_true rfl), (Nat.le_of_ble_eq_true rfl)⟩)  rfl rfl hl.1 (Nat.le_of_ble_eq_true rfl) ⟨(Nat.le_of_ble_eq_true rfl), (Nat.le_of_ble_eq_true rfl)⟩ dX6_want_81 (fun H locs hR hS => ?_)
    refine lv_iload_n hx hb dX6_want_84 rfl (lv_at hl 0 rfl) ?_
    exact eI X hR hS (congrArg Prod.fst (Option.some.inj hf)) (congrArg Prod.snd (Option.some.inj hf)) dX6_want_85
  · replace hf := ite_f c_9 hf
    refine lv_iconst (v := (0 : Int32)) hx hb dX6_want_34 (by decide) ?_
    exact eI X hR hS (congrArg Prod.fst (Option.some.inj hf)) (congrArg Prod.snd (Option.some.inj hf)) dX6_want_35
set_option maxRecDepth 100000 in
set_option maxHeartbeats 4000000 in
theorem bX6_want_0 {p : Program} {l : Launch} {e : Env} {s : State} {m : MethodId} {args : Array Value} {below : List Frame} {meth : Method} {c : Code} {D : va_G} {cy : Nat → ClassId} {ad : Nat → Nat} {ba : Nat} {O : Int64} {S : teS}  {x1 : Int32} {x2 : Int32} {res : (Int32 × teS)} (X : teC wsX6_want RX6 cX6_want 4 (some .int) D cy ba p s m args meth c) (H : Heap) (locs : List Loc) (ls : Array Slot) (hR : teR D cy ad ba O S H) (hS : va_S (teA ba) s.heap H locs) (hl : lv_has ls 4 [(0, .ref (ad 369)), (1, .int x1), (2, .int x2)]) (hf : fX6_want x1 x2 S = some res) : W p l e (headSpec wsX6_want rmX6_want).room s m args below meth c H locs 0 0 (MQ below (va_Qi (fun a (u : teS) => a = res.1 ∧ u = res.2) (fun u t => teR D cy ad ba O u t.heap) (teA ba)) args s 0 0 (teA ba)) (F0 m 0 ls []) := by
  have hx := X.1
  have hb := X.2.1
  have hown := X.2.2.2.2.1
  unfold fX6_want at hf
  refine lv_aload_n hx hb dX6_want_0 rfl (lv_at hl 0 rfl) ?_
  refine lv_aload_n hx hb dX6_want_1 rfl (lv_at hl 0 rfl) ?_
  refine rg_6_5 X hR iX6_want_6 wX6_want_16 dX6_want_2 ?_
  refine lv_iload_n hx hb dX6_want_5 rfl (lv_at hl 1 rfl) ?_
  obtain ⟨r_1, hq_2, hf⟩ := bd1_some hf
  refine kSi (As := [.ref (ad 372), .int x1]) (rest := [.ref (ad 369)]) X hR hS (zcX6_isMember l D cy ad ba O S 372 x1 rfl _ hq_2) (va_cwS 2 X.2.2.2.2.2.1 gX6_want_X6_isMember rfl rfl rfl kdX6_isMember.2 ⟨(Nat.le_of_ble_eq_true rfl), (Nat.le_of_ble_eq_true rfl)⟩)  rfl rfl hl.1 (Nat.le_of_ble_eq_true rfl) ⟨(Nat.le_of_ble_eq_true rfl), (Nat.le_of_ble_eq_true rfl)⟩ dX6_want_6 (fun H locs hR hS => ?_)
  refine lv_if_ne (tgt := 16) hx hb dX6_want_9 (by decide) (fun c_3 => ?_) (fun c_3 => ?_)
  · replace hf := ite_f c_3 hf
    refine lv_iload_n hx hb dX6_want_16 rfl (lv_at hl 2 rfl) ?_
    obtain ⟨r_4, hq_5, hf⟩ := bd1_some hf
    refine kSi (As := [.int x2]) (rest := [.ref (ad 369)]) X hR hS (zcX6_isTongue l D cy ad ba O S x2 _ hq_5) (va_cwS 1 X.2.2.2.2.2.1 gX6_want_X6_isTongue rfl rfl rfl kdX6_isTongue.2 ⟨(Nat.le_of_ble_eq_true rfl), (Nat.le_of_ble_eq_true rfl)⟩)  rfl rfl hl.1 (Nat.le_of_ble_eq_true rfl) ⟨(Nat.le_of_ble_eq_true rfl), (Nat.le_of_ble_eq_true rfl)⟩ dX6_want_17 (fun H locs hR hS => ?_)
    refine lv_if_ne (tgt := 27) hx hb dX6_want_20 (by decide) (fun c_6 => ?_) (fun c_6 => ?_)
    · replace hf := ite_f c_6 hf
      refine lv_iconst (v := (0 : Int32)) hx hb dX6_want_27 (by decide) ?_
      exact bX6_want_28 (S := S) (x1 := x1) (x2 := x2) X S ((0 : Int32)) _ _ _ hR hS (lv_sub hl [0, 1, 2] rfl) hf
    · replace hf := ite_t c_6 hf
      refine lv_iconst (v := (2 : Int32)) hx hb dX6_want_23 (by decide) ?_
      refine lv_goto (tgt := 28) hx hb dX6_want_24 (by decide) ?_
      exact bX6_want_28 (S := S) (x1 := x1) (x2 := x2) X S ((2 : Int32)) _ _ _ hR hS (lv_sub hl [0, 1, 2] rfl) hf
  · replace hf := ite_t c_3 hf
    refine lv_iconst (v := (1 : Int32)) hx hb dX6_want_12 (by decide) ?_
    refine lv_goto (tgt := 28) hx hb dX6_want_13 (by decide) ?_
    exact bX6_want_28 (S := S) (x1 := x1) (x2 := x2) X S ((1 : Int32)) _ _ _ hR hS (lv_sub hl [0, 1, 2] rfl) hf
theorem zcX6_want (l : Launch) (D : va_G) (cy : Nat → ClassId) (ad : Nat → Nat) (ba : Nat) (O : Int64) (S : teS) (x1 : Int32) (x2 : Int32) (r : Int32) (S1 : teS) (hf : fX6_want x1 x2 S = some (r, S1)) : cI l yX6_want wsX6_want rmX6_want D cy ad ba O S [.ref (ad 369), .int x1, .int x2] r S1 :=
  te_of (by decide) rfl (Nat.le_of_ble_eq_true rfl) (fun p e s m below meth c ls X hR hS hl => bX6_want_0 (res := (r, S1)) (S := S) (x1 := x1) (x2 := x2) X _ _ _ hR hS hl hf)
abbrev rmX6_testOn : Room := { frames := 4, cells := 0, slots := 0, locals := 87 }
theorem kdX6_testOn : yX6_testOn.cls = RX6 ∧ yX6_testOn.cls ≠ "java/lang/invoke/MethodHandle" ∧ yX6_testOn.cls ≠ "java/lang/invoke/VarHandle" ∧ (parseMethodDescriptor yX6_testOn.desc).map (fun d => d.parameters.length) = some 4 := by decide +kernel
set_option maxRecDepth 100000 in
set_option maxHeartbeats 4000000 in
theorem bX6_testOn_0 {p : Program} {l : Launch} {e : Env} {s : State} {m : MethodId} {args : Array Value} {below : List Frame} {meth : Method} {c : Code} {D : va_G} {cy : Nat → ClassId} {ad : Nat → Nat} {ba : Nat} {O : Int64} {S : teS}  {r0 : Nat} {x1 : Int32} {x2 : Int32} {x3 : Int32} {res : (Int32 × teS)} (hr0 : teK r0 = true) (X : teC wsX6_testOn RX6 cX6_testOn 5 (some .int) D cy ba p s m args meth c) (H : Heap) (locs : List Loc) (ls : Array Slot) (hR : teR D cy ad ba O S H) (hS : va_S (teA ba) s.heap H locs) (hl : lv_has ls 5 [(0, .ref (ad r0)), (1, .int x1), (2, .int x2), (3, .int x3)]) (hf : fX6_testOn r0 x1 x2 x3 S = some res) : W p l e (headSpec wsX6_testOn rmX6_testOn).room s m args below meth c H locs 0 0 (MQ below (va_Qi (fun a (u : teS) => a = res.1 ∧ u = res.2) (fun u t => teR D cy ad ba O u t.heap) (teA ba)) args s 0 0 (teA ba)) (F0 m 0 ls []) := by
  have hx := X.1
  have hb := X.2.1
  have hown := X.2.2.2.2.1
  unfold fX6_testOn at hf
  refine lv_aload_n hx hb dX6_testOn_0 rfl (lv_at hl 0 rfl) ?_
  refine lv_iload_n hx hb dX6_testOn_1 rfl (lv_at hl 1 rfl) ?_
  obtain ⟨r_1, hq_2, hf⟩ := bd1_some hf
  refine kSi (As := [.int x1]) (rest := [.ref (ad r0)]) X hR hS (zcX6_at l D cy ad ba O S x1 _ hq_2) (va_cwS 1 X.2.2.2.2.2.1 gX6_testOn_X6_at rfl rfl rfl kdX6_at.2 ⟨(Nat.le_of_ble_eq_true rfl), (Nat.le_of_ble_eq_true rfl)⟩)  rfl rfl hl.1 (Nat.le_of_ble_eq_true rfl) ⟨(Nat.le_of_ble_eq_true rfl), (Nat.le_of_ble_eq_true rfl)⟩ dX6_testOn_2 (fun H locs hR hS => ?_)
  refine lv_iload_n hx hb dX6_testOn_5 rfl (lv_at hl 2 rfl) ?_
  refine lv_iadd hx hb dX6_testOn_6 ?_
  obtain ⟨h_3, hf⟩ := chk_some hf
  refine ra_int X hR (r := r0) hr0 h_3 dX6_testOn_7 ?_
  refine lv_istore (lv' := [(4, .int (S r0 (r_1 + x2).toNatClampNeg)), (0, .ref (ad r0)), (1, .int x1), (2, .int x2), (3, .int x3)]) hx hb dX6_testOn_8 hl (by decide) rfl (fun ls hl => ?_)
  refine lv_aload_n hx hb dX6_testOn_10 rfl (lv_at hl 1 rfl) ?_
  refine lv_iload_n hx hb dX6_testOn_11 rfl (lv_at hl 2 rfl) ?_
  obtain ⟨r_4, hq_5, hf⟩ := bd1_some hf
  refine kSi (As := [.int x1]) (rest := [.ref (ad r0)]) X hR hS (zcX6_at l D cy ad ba O S x1 _ hq_5) (va_cwS 1 X.2.2.2.2.2.1 gX6_testOn_X6_at rfl rfl rfl kdX6_at.2 ⟨(Nat.le_of_ble_eq_true rfl), (Nat.le_of_ble_eq_true rfl)⟩)  rfl rfl hl.1 (Nat.le_of_ble_eq_true rfl) ⟨(Nat.le_of_ble_eq_true rfl), (Nat.le_of_ble_eq_true rfl)⟩ dX6_testOn_12 (fun H locs hR hS => ?_)
  refine lv_iload_n hx hb dX6_testOn_15 rfl (lv_at hl 3 rfl) ?_
  refine lv_iadd hx hb dX6_testOn_16 ?_
  refine lv_iload_n hx hb dX6_testOn_17 rfl (lv_at hl 4 rfl) ?_
  refine lv_bipush (v := (10 : Int32)) hx hb dX6_testOn_18 (by decide) ?_
  refine lv_idiv hx hb dX6_testOn_20 (by decide) ?_
  obtain ⟨h_6, hf⟩ := chk_some hf
  refine rs_int X hR hS (r := r0) hr0 h_6 dX6_testOn_21 (fun H locs hR hS => ?_)
  generalize teu S r0 (r_4 + x2).toNatClampNeg (x3 / (10 : Int32)) = S1 at hf hR
  replace hf := lt1_e hf
  refine lv_aload_n hx hb dX6_testOn_22 rfl (lv_at hl 1 rfl) ?_
  refine lv_iload_n hx hb dX6_testOn_23 rfl (lv_at hl 2 rfl) ?_
  obtain ⟨r_7, hq_8, hf⟩ := bd1_some hf
  refine kSi (As := [.int x1]) (rest := [.ref (ad r0)]) X hR hS (zcX6_at l D cy ad ba O S1 x1 _ hq_8) (va_cwS 1 X.2.2.2.2.2.1 gX6_testOn_X6_at rfl rfl rfl kdX6_at.2 ⟨(Nat.le_of_ble_eq_true rfl), (Nat.le_of_ble_eq_true rfl)⟩)  rfl rfl hl.1 (Nat.le_of_ble_eq_true rfl) ⟨(Nat.le_of_ble_eq_true rfl), (Nat.le_of_ble_eq_true rfl)⟩ dX6_testOn_24 (fun H locs hR hS => ?_)
  refine lv_iconst (v := (5 : Int32)) hx hb dX6_testOn_27 (by decide) ?_
  refine lv_iadd hx hb dX6_testOn_28 ?_
  refine lv_aload_n hx hb dX6_testOn_29 rfl (lv_at hl 1 rfl) ?_
  refine lv_iload_n hx hb dX6_testOn_30 rfl (lv_at hl 2 rfl) ?_
  obtain ⟨r_9, hq_10, hf⟩ := bd1_some hf
  refine kSi (As := [.int x1]) (rest := [.ref (ad r0), .int (r_7 + (5 : Int32)), .ref (ad r0)]) X hR hS (zcX6_at l D cy ad ba O S1 x1 _ hq_10) (va_cwS 1 X.2.2.2.2.2.1 gX6_testOn_X6_at rfl rfl rfl kdX6_at.2 ⟨(Nat.le_of_ble_eq_true rfl), (Nat.le_of_ble_eq_true rfl)⟩)  rfl rfl hl.1 (Nat.le_of_ble_eq_true rfl) ⟨(Nat.le_of_ble_eq_true rfl), (Nat.le_of_ble_eq_true rfl)⟩ dX6_testOn_31 (fun H locs hR hS => ?_)
  refine lv_iconst (v := (4 : Int32)) hx hb dX6_testOn_34 (by decide) ?_
  refine lv_iadd hx hb dX6_testOn_35 ?_
  obtain ⟨h_11, hf⟩ := chk_some hf
  refine ra_int X hR (r := r0) hr0 h_11 dX6_testOn_36 ?_
  refine lv_iload_n hx hb dX6_testOn_37 rfl (lv_at hl 3 rfl) ?_
  refine lv_icmp_ne (tgt := 50) hx hb dX6_testOn_38 (by decide) (fun c_12 => ?_) (fun c_12 => ?_)
  · replace hf := ite_f c_12 hf
    refine lv_aload_n hx hb dX6_testOn_50 rfl (lv_at hl 1 rfl) ?_
    refine lv_iload_n hx hb dX6_testOn_51 rfl (lv_at hl 2 rfl) ?_
    obtain ⟨r_13, hq_14, hf⟩ := bd1_some hf
    refine kSi (As := [.int x1]) (rest := [.ref (ad r0), .int (r_7 + (5 : Int32)), .ref (ad r0)]) X hR hS (zcX6_at l D cy ad ba O S1 x1 _ hq_14) (va_cwS 1 X.2.2.2.2.2.1 gX6_testOn_X6_at rfl rfl rfl kdX6_at.2 ⟨(Nat.le_of_ble_eq_true rfl), (Nat.le_of_ble_eq_true rfl)⟩)  rfl rfl hl.1 (Nat.le_of_ble_eq_true rfl) ⟨(Nat.le_of_ble_eq_true rfl), (Nat.le_of_ble_eq_true rfl)⟩ dX6_testOn_52 (fun H locs hR hS => ?_)
    refine lv_iconst (v := (5 : Int32)) hx hb dX6_testOn_55 (by decide) ?_
    refine lv_iadd hx hb dX6_testOn_56 ?_
    obtain ⟨h_15, hf⟩ := chk_some hf
    refine ra_int X hR (r := r0) hr0 h_15 dX6_testOn_57 ?_
    obtain ⟨h_16, hf⟩ := chk_some hf
    refine rs_int X hR hS (r := r0) hr0 h_16 dX6_testOn_58 (fun H locs hR hS => ?_)
    generalize teu S1 r0 (r_7 + (5 : Int32)).toNatClampNeg (S1 r0 (r_13 + (5 : Int32)).toNatClampNeg) = S2 at hf hR
    replace hf := lt1_e hf
    refine lv_aload_n hx hb dX6_testOn_59 rfl (lv_at hl 1 rfl) ?_
    refine lv_iload_n hx hb dX6_testOn_60 rfl (lv_at hl 2 rfl) ?_
    obtain ⟨S3, hq_18, hf⟩ := bd1_some hf
    refine kSv (As := [.ref (ad r0), .int x1]) (rest := []) X hR hS (zcX6_mend l D cy ad ba O S2 r0 x1 hr0 _ hq_18) (va_cwS 2 X.2.2.2.2.2.1 gX6_testOn_X6_mend rfl rfl rfl kdX6_mend.2 ⟨(Nat.le_of_ble_eq_true rfl), (Nat.le_of_ble_eq_true rfl)⟩)  rfl rfl hl.1 (Nat.le_of_ble_eq_true rfl) ⟨(Nat.le_of_ble_eq_true rfl), (Nat.le_of_ble_eq_true rfl)⟩ dX6_testOn_61 (fun H locs hR hS => ?_)
    refine lv_iload hx hb dX6_testOn_64 (lv_at hl 0 rfl) ?_
    exact eI X hR hS (congrArg Prod.fst (Option.some.inj hf)) (congrArg Prod.snd (Option.some.inj hf)) dX6_testOn_66
  · replace hf := ite_t c_12 hf
    refine lv_iload_n hx hb dX6_testOn_41 rfl (lv_at hl 4 rfl) ?_
    refine lv_bipush (v := (10 : Int32)) hx hb dX6_testOn_42 (by decide) ?_
    refine lv_irem hx hb dX6_testOn_44 (by decide) ?_
    refine lv_iconst (v := (2 : Int32)) hx hb dX6_testOn_45 (by decide) ?_
    refine lv_imul hx hb dX6_testOn_46 ?_
    refine lv_goto (tgt := 58) hx hb dX6_testOn_47 (by decide) ?_
    obtain ⟨h_19, hf⟩ := chk_some hf
    refine rs_int X hR hS (r := r0) hr0 h_19 dX6_testOn_58 (fun H locs hR hS => ?_)
    generalize teu S1 r0 (r_7 + (5 : Int32)).toNatClampNeg ((x3 - x3 / (10 : Int32) * (10 : Int32)) * (2 : Int32)) = S4 at hf hR
    replace hf := lt1_e hf
    refine lv_aload_n hx hb dX6_testOn_59 rfl (lv_at hl 1 rfl) ?_
    refine lv_iload_n hx hb dX6_testOn_60 rfl (lv_at hl 2 rfl) ?_
    obtain ⟨S5, hq_21, hf⟩ := bd1_some hf
    refine kSv (As := [.ref (ad r0), .int x1]) (rest := []) X hR hS (zcX6_mend l D cy ad ba O S4 r0 x1 hr0 _ hq_21) (va_cwS 2 X.2.2.2.2.2.1 gX6_testOn_X6_mend rfl rfl rfl kdX6_mend.2 ⟨(Nat.le_of_ble_eq_true rfl), (Nat.le_of_ble_eq_true rfl)⟩)  rfl rfl hl.1 (Nat.le_of_ble_eq_true rfl) ⟨(Nat.le_of_ble_eq_true rfl), (Nat.le_of_ble_eq_true rfl)⟩ dX6_testOn_61 (fun H locs hR hS => ?_)
    refine lv_iload hx hb dX6_testOn_64 (lv_at hl 0 rfl) ?_
    exact eI X hR hS (congrArg Prod.fst (Option.some.inj hf)) (congrArg Prod.snd (Option.some.inj hf)) dX6_testOn_66
theorem zcX6_testOn (l : Launch) (D : va_G) (cy : Nat → ClassId) (ad : Nat → Nat) (ba : Nat) (O : Int64) (S : teS) (r0 : Nat) (x1 : Int32) (x2 : Int32) (x3 : Int32) (hr0 : teK r0 = true) (r : Int32) (S1 : teS) (hf : fX6_testOn r0 x1 x2 x3 S = some (r, S1)) : cI l yX6_testOn wsX6_testOn rmX6_testOn D cy ad ba O S [.ref (ad r0), .int x1, .int x2, .int x3] r S1 :=
  te_of (by decide) rfl (Nat.le_of_ble_eq_true rfl) (fun p e s m below meth c ls X hR hS hl => bX6_testOn_0 (res := (r, S1)) (S := S) (r0 := r0) (x1 := x1) (x2 := x2) (x3 := x3) hr0 X _ _ _ hR hS hl hf)
abbrev rmX6_test : Room := { frames := 5, cells := 0, slots := 0, locals := 111 }
theorem kdX6_test : yX6_test.cls = RX6 ∧ yX6_test.cls ≠ "java/lang/invoke/MethodHandle" ∧ yX6_test.cls ≠ "java/lang/invoke/VarHandle" ∧ (parseMethodDescriptor yX6_test.desc).map (fun d => d.parameters.length) = some 3 := by decide +kernel
theorem wX6_test_16 : Cond.fieldLink RX6 16 "TandemExchangeModel" "now" "[I" ∈ wsX6_test := by decide +kernel
theorem iX6_test_6 : ∀ w ∈ wsX60, w ∈ wsX6_test := by decide +kernel
theorem wX6_test_161 : Cond.constantLong RX6 161 (99) ∈ wsX6_test := by decide +kernel
set_option maxRecDepth 100000 in
set_option maxHeartbeats 4000000 in
theorem bX6_test_40 {p : Program} {l : Launch} {e : Env} {s : State} {m : MethodId} {args : Array Value} {below : List Frame} {meth : Method} {c : Code} {D : va_G} {cy : Nat → ClassId} {ad : Nat → Nat} {ba : Nat} {O : Int64} {S : teS}  {x1 : Int32} {x2 : Int32} {x3 : Int32} {res : (Int32 × teS)} (X : teC wsX6_test RX6 cX6_test 4 (some .int) D cy ba p s m args meth c) : ∀ (S1 : teS) (y0 : Int32) (H : Heap) (locs : List Loc) (ls : Array Slot), teR D cy ad ba O S1 H → va_S (teA ba) s.heap H locs → lv_has ls 4 [(0, .ref (ad 369)), (1, .int x1), (2, .int x2), (3, .int x3)] → fX6_test_40 x1 x2 x3 S1 y0 = some res → W p l e (headSpec wsX6_test rmX6_test).room s m args below meth c H locs 0 0 (MQ below (va_Qi (fun a (u : teS) => a = res.1 ∧ u = res.2) (fun u t => teR D cy ad ba O u t.heap) (teA ba)) args s 0 0 (teA ba)) (F0 m 40 ls [.int y0, .ref (ad 369)]) := by
  have hx := X.1
  have hb := X.2.1
  have hown := X.2.2.2.2.1
  intro S1 y0 H locs ls hR hS hl hf
  unfold fX6_test_40 at hf
  obtain ⟨r_10, S2, hq_11, hf⟩ := bd2_some hf
  refine kVi (id := 369) (As := [.int y0]) (rest := []) X hR hS (zcX6_refused l D cy ad ba O S1 y0 _ _ hq_11) (cwV 1 X.2.2.2.2.2.1 gX6_test_X6_refused rfl rfl rfl kdX6_refused ⟨(Nat.le_of_ble_eq_true rfl), (Nat.le_of_ble_eq_true rfl)⟩) (by decide) rfl rfl rfl rfl hl.1 (Nat.le_of_ble_eq_true rfl) ⟨(Nat.le_of_ble_eq_true rfl), (Nat.le_of_ble_eq_true rfl)⟩ dX6_test_40 (fun H locs hR hS => ?_)
  refine lv_if_eq (tgt := 48) hx hb dX6_test_43 (by decide) (fun c_12 => ?_) (fun c_12 => ?_)
  · replace hf := ite_t c_12 hf
    refine lv_aload_n hx hb dX6_test_48 rfl (lv_at hl 0 rfl) ?_
    obtain ⟨S3, hq_14, hf⟩ := bd1_some hf
    refine kVv (id := 369) (As := []) (rest := []) X hR hS (zcX6_note l D cy ad ba O S2 _ hq_14) (cwV 0 X.2.2.2.2.2.1 gX6_test_X6_note rfl rfl rfl kdX6_note ⟨(Nat.le_of_ble_eq_true rfl), (Nat.le_of_ble_eq_true rfl)⟩) (by decide) rfl rfl rfl rfl hl.1 (Nat.le_of_ble_eq_true rfl) ⟨(Nat.le_of_ble_eq_true rfl), (Nat.le_of_ble_eq_true rfl)⟩ dX6_test_49 (fun H locs hR hS => ?_)
    refine lv_aload_n hx hb dX6_test_52 rfl (lv_at hl 0 rfl) ?_
    refine rg_6_5 X hR iX6_test_6 wX6_test_16 dX6_test_53 ?_
    refine lv_iload_n hx hb dX6_test_56 rfl (lv_at hl 1 rfl) ?_
    refine lv_iload_n hx hb dX6_test_57 rfl (lv_at hl 2 rfl) ?_
    refine lv_iload_n hx hb dX6_test_58 rfl (lv_at hl 3 rfl) ?_
    obtain ⟨r_15, S4, hq_16, hf⟩ := bd2_some hf
    refine kSi (As := [.ref (ad 372), .int x1, .int x2, .int x3]) (rest := []) X hR hS (zcX6_testOn l D cy ad ba O S3 372 x1 x2 x3 rfl _ _ hq_16) (va_cwS 4 X.2.2.2.2.2.1 gX6_test_X6_testOn rfl rfl rfl kdX6_testOn.2 ⟨(Nat.le_of_ble_eq_true rfl), (Nat.le_of_ble_eq_true rfl)⟩)  rfl rfl hl.1 (Nat.le_of_ble_eq_true rfl) ⟨(Nat.le_of_ble_eq_true rfl), (Nat.le_of_ble_eq_true rfl)⟩ dX6_test_59 (fun H locs hR hS => ?_)
    exact eI X hR hS (congrArg Prod.fst (Option.some.inj hf)) (congrArg Prod.snd (Option.some.inj hf)) dX6_test_62
  · replace hf := ite_f c_12 hf
    refine lv_iconst (v := (0 : Int32)) hx hb dX6_test_46 (by decide) ?_
    exact eI X hR hS (congrArg Prod.fst (Option.some.inj hf)) (congrArg Prod.snd (Option.some.inj hf)) dX6_test_47
set_option maxRecDepth 100000 in
set_option maxHeartbeats 4000000 in
theorem bX6_test_0 {p : Program} {l : Launch} {e : Env} {s : State} {m : MethodId} {args : Array Value} {below : List Frame} {meth : Method} {c : Code} {D : va_G} {cy : Nat → ClassId} {ad : Nat → Nat} {ba : Nat} {O : Int64} {S : teS}  {x1 : Int32} {x2 : Int32} {x3 : Int32} {res : (Int32 × teS)} (X : teC wsX6_test RX6 cX6_test 4 (some .int) D cy ba p s m args meth c) (H : Heap) (locs : List Loc) (ls : Array Slot) (hR : teR D cy ad ba O S H) (hS : va_S (teA ba) s.heap H locs) (hl : lv_has ls 4 [(0, .ref (ad 369)), (1, .int x1), (2, .int x2), (3, .int x3)]) (hf : fX6_test x1 x2 x3 S = some res) : W p l e (headSpec wsX6_test rmX6_test).room s m args below meth c H locs 0 0 (MQ below (va_Qi (fun a (u : teS) => a = res.1 ∧ u = res.2) (fun u t => teR D cy ad ba O u t.heap) (teA ba)) args s 0 0 (teA ba)) (F0 m 0 ls []) := by
  have hx := X.1
  have hb := X.2.1
  have hown := X.2.2.2.2.1
  unfold fX6_test at hf
  refine lv_aload_n hx hb dX6_test_0 rfl (lv_at hl 0 rfl) ?_
  refine lv_aload_n hx hb dX6_test_1 rfl (lv_at hl 0 rfl) ?_
  refine rg_6_5 X hR iX6_test_6 wX6_test_16 dX6_test_2 ?_
  refine lv_iload_n hx hb dX6_test_5 rfl (lv_at hl 1 rfl) ?_
  obtain ⟨r_1, hq_2, hf⟩ := bd1_some hf
  refine kSi (As := [.ref (ad 372), .int x1]) (rest := [.ref (ad 369)]) X hR hS (zcX6_isMember l D cy ad ba O S 372 x1 rfl _ hq_2) (va_cwS 2 X.2.2.2.2.2.1 gX6_test_X6_isMember rfl rfl rfl kdX6_isMember.2 ⟨(Nat.le_of_ble_eq_true rfl), (Nat.le_of_ble_eq_true rfl)⟩)  rfl rfl hl.1 (Nat.le_of_ble_eq_true rfl) ⟨(Nat.le_of_ble_eq_true rfl), (Nat.le_of_ble_eq_true rfl)⟩ dX6_test_6 (fun H locs hR hS => ?_)
  refine lv_if_ne (tgt := 16) hx hb dX6_test_9 (by decide) (fun c_3 => ?_) (fun c_3 => ?_)
  · replace hf := ite_f c_3 hf
    refine lv_iload_n hx hb dX6_test_16 rfl (lv_at hl 2 rfl) ?_
    obtain ⟨r_4, hq_5, hf⟩ := bd1_some hf
    refine kSi (As := [.int x2]) (rest := [.ref (ad 369)]) X hR hS (zcX6_isTongue l D cy ad ba O S x2 _ hq_5) (va_cwS 1 X.2.2.2.2.2.1 gX6_test_X6_isTongue rfl rfl rfl kdX6_isTongue.2 ⟨(Nat.le_of_ble_eq_true rfl), (Nat.le_of_ble_eq_true rfl)⟩)  rfl rfl hl.1 (Nat.le_of_ble_eq_true rfl) ⟨(Nat.le_of_ble_eq_true rfl), (Nat.le_of_ble_eq_true rfl)⟩ dX6_test_17 (fun H locs hR hS => ?_)
    refine lv_if_eq (tgt := 35) hx hb dX6_test_20 (by decide) (fun c_6 => ?_) (fun c_6 => ?_)
    · replace hf := ite_t c_6 hf
      refine lv_iconst (v := (2 : Int32)) hx hb dX6_test_35 (by decide) ?_
      refine lv_goto (tgt := 40) hx hb dX6_test_36 (by decide) ?_
      exact bX6_test_40 (S := S) (x1 := x1) (x2 := x2) (x3 := x3) X S ((2 : Int32)) _ _ _ hR hS (lv_sub hl [0, 1, 2, 3] rfl) hf
    · replace hf := ite_f c_6 hf
      refine lv_iload_n hx hb dX6_test_23 rfl (lv_at hl 3 rfl) ?_
      refine lv_i2l hx hb dX6_test_24 rfl ?_
      refine lv_lconst (v := (0 : Int64)) hx hb dX6_test_25 (by decide) ?_
      refine lv_ldc2 (v := (99 : Int64)) hx hb hown (X.2.2.2.2.2.1 _ wX6_test_161) dX6_test_26 ?_
      obtain ⟨r_7, hq_8, hf⟩ := bd1_some hf
      refine kSi (As := [.long (x3).toInt64, .long (0 : Int64), .long (99 : Int64)]) (rest := [.ref (ad 369)]) X hR hS (zcX6_in l D cy ad ba O S ((x3).toInt64) (0 : Int64) (99 : Int64) _ hq_8) (va_cwS 3 X.2.2.2.2.2.1 gX6_test_X6_in rfl rfl rfl kdX6_in.2 ⟨(Nat.le_of_ble_eq_true rfl), (Nat.le_of_ble_eq_true rfl)⟩)  rfl rfl hl.1 (Nat.le_of_ble_eq_true rfl) ⟨(Nat.le_of_ble_eq_true rfl), (Nat.le_of_ble_eq_true rfl)⟩ dX6_test_29 (fun H locs hR hS => ?_)
      refine lv_if_ne (tgt := 39) hx hb dX6_test_32 (by decide) (fun c_9 => ?_) (fun c_9 => ?_)
      · replace hf := ite_f c_9 hf
        refine lv_iconst (v := (0 : Int32)) hx hb dX6_test_39 (by decide) ?_
        exact bX6_test_40 (S := S) (x1 := x1) (x2 := x2) (x3 := x3) X S ((0 : Int32)) _ _ _ hR hS (lv_sub hl [0, 1, 2, 3] rfl) hf
      · replace hf := ite_t c_9 hf
        refine lv_iconst (v := (2 : Int32)) hx hb dX6_test_35 (by decide) ?_
        refine lv_goto (tgt := 40) hx hb dX6_test_36 (by decide) ?_
        exact bX6_test_40 (S := S) (x1 := x1) (x2 := x2) (x3 := x3) X S ((2 : Int32)) _ _ _ hR hS (lv_sub hl [0, 1, 2, 3] rfl) hf
  · replace hf := ite_t c_3 hf
    refine lv_iconst (v := (1 : Int32)) hx hb dX6_test_12 (by decide) ?_
    refine lv_goto (tgt := 40) hx hb dX6_test_13 (by decide) ?_
    exact bX6_test_40 (S := S) (x1 := x1) (x2 := x2) (x3 := x3) X S ((1 : Int32)) _ _ _ hR hS (lv_sub hl [0, 1, 2, 3] rfl) hf
theorem zcX6_test (l : Launch) (D : va_G) (cy : Nat → ClassId) (ad : Nat → Nat) (ba : Nat) (O : Int64) (S : teS) (x1 : Int32) (x2 : Int32) (x3 : Int32) (r : Int32) (S1 : teS) (hf : fX6_test x1 x2 x3 S = some (r, S1)) : cI l yX6_test wsX6_test rmX6_test D cy ad ba O S [.ref (ad 369), .int x1, .int x2, .int x3] r S1 :=
  te_of (by decide) rfl (Nat.le_of_ble_eq_true rfl) (fun p e s m below meth c ls X hR hS hl => bX6_test_0 (res := (r, S1)) (S := S) (x1 := x1) (x2 := x2) (x3 := x3) X _ _ _ hR hS hl hf)
abbrev rmX6_canPair : Room := { frames := 3, cells := 0, slots := 0, locals := 65 }
theorem kdX6_canPair : yX6_canPair.cls = RX6 ∧ yX6_canPair.cls ≠ "java/lang/invoke/MethodHandle" ∧ yX6_canPair.cls ≠ "java/lang/invoke/VarHandle" ∧ (parseMethodDescriptor yX6_canPair.desc).map (fun d => d.parameters.length) = some 3 := by decide +kernel
set_option maxRecDepth 100000 in
set_option maxHeartbeats 4000000 in
theorem bX6_canPair_0 {p : Program} {l : Launch} {e : Env} {s : State} {m : MethodId} {args : Array Value} {below : List Frame} {meth : Method} {c : Code} {D : va_G} {cy : Nat → ClassId} {ad : Nat → Nat} {ba : Nat} {O : Int64} {S : teS}  {r0 : Nat} {x1 : Int32} {x2 : Int32} {res : Int32} (hr0 : teK r0 = true) (X : teC wsX6_canPair RX6 cX6_canPair 3 (some .boolean) D cy ba p s m args meth c) (H : Heap) (locs : List Loc) (ls : Array Slot) (hR : teR D cy ad ba O S H) (hS : va_S (teA ba) s.heap H locs) (hl : lv_has ls 3 [(0, .ref (ad r0)), (1, .int x1), (2, .int x2)]) (hf : fX6_canPair r0 x1 x2 S = some res) : W p l e (headSpec wsX6_canPair rmX6_canPair).room s m args below meth c H locs 0 0 (MQ below (va_Qi (fun a (u : teS) => a = res ∧ u = S) (fun u t => teR D cy ad ba O u t.heap) (teA ba)) args s 0 0 (teA ba)) (F0 m 0 ls []) := by
  have hx := X.1
  have hb := X.2.1
  have hown := X.2.2.2.2.1
  unfold fX6_canPair at hf
  refine lv_aload_n hx hb dX6_canPair_0 rfl (lv_at hl 0 rfl) ?_
  refine lv_iload_n hx hb dX6_canPair_1 rfl (lv_at hl 1 rfl) ?_
  obtain ⟨r_1, hq_2, hf⟩ := bd1_some hf
  refine kSi (As := [.ref (ad r0), .int x1]) (rest := []) X hR hS (zcX6_isFree l D cy ad ba O S r0 x1 hr0 _ hq_2) (va_cwS 2 X.2.2.2.2.2.1 gX6_canPair_X6_isFree rfl rfl rfl kdX6_isFree.2 ⟨(Nat.le_of_ble_eq_true rfl), (Nat.le_of_ble_eq_true rfl)⟩)  rfl rfl hl.1 (Nat.le_of_ble_eq_true rfl) ⟨(Nat.le_of_ble_eq_true rfl), (Nat.le_of_ble_eq_true rfl)⟩ dX6_canPair_2 (fun H locs hR hS => ?_)
  refine lv_if_eq (tgt := 29) hx hb dX6_canPair_5 (by decide) (fun c_3 => ?_) (fun c_3 => ?_)
  · replace hf := ite_t c_3 hf
    refine lv_iconst (v := (0 : Int32)) hx hb dX6_canPair_29 (by decide) ?_
    exact eZ X hR hS (by decide) (Option.some.inj hf) rfl dX6_canPair_30
  · replace hf := ite_f c_3 hf
    refine lv_aload_n hx hb dX6_canPair_8 rfl (lv_at hl 0 rfl) ?_
    refine lv_iload_n hx hb dX6_canPair_9 rfl (lv_at hl 2 rfl) ?_
    obtain ⟨r_4, hq_5, hf⟩ := bd1_some hf
    refine kSi (As := [.ref (ad r0), .int x2]) (rest := []) X hR hS (zcX6_isFree l D cy ad ba O S r0 x2 hr0 _ hq_5) (va_cwS 2 X.2.2.2.2.2.1 gX6_canPair_X6_isFree rfl rfl rfl kdX6_isFree.2 ⟨(Nat.le_of_ble_eq_true rfl), (Nat.le_of_ble_eq_true rfl)⟩)  rfl rfl hl.1 (Nat.le_of_ble_eq_true rfl) ⟨(Nat.le_of_ble_eq_true rfl), (Nat.le_of_ble_eq_true rfl)⟩ dX6_canPair_10 (fun H locs hR hS => ?_)
    refine lv_if_eq (tgt := 29) hx hb dX6_canPair_13 (by decide) (fun c_6 => ?_) (fun c_6 => ?_)
    · replace hf := ite_t c_6 hf
      refine lv_iconst (v := (0 : Int32)) hx hb dX6_canPair_29 (by decide) ?_
      exact eZ X hR hS (by decide) (Option.some.inj hf) rfl dX6_canPair_30
    · replace hf := ite_f c_6 hf
      refine lv_aload_n hx hb dX6_canPair_16 rfl (lv_at hl 0 rfl) ?_
      refine lv_iload_n hx hb dX6_canPair_17 rfl (lv_at hl 1 rfl) ?_
      refine lv_iload_n hx hb dX6_canPair_18 rfl (lv_at hl 2 rfl) ?_
      obtain ⟨r_7, hq_8, hf⟩ := bd1_some hf
      refine kSi (As := [.ref (ad r0), .int x1, .int x2]) (rest := []) X hR hS (zcX6_fit l D cy ad ba O S r0 x1 x2 hr0 _ hq_8) (va_cwS 3 X.2.2.2.2.2.1 gX6_canPair_X6_fit rfl rfl rfl kdX6_fit.2 ⟨(Nat.le_of_ble_eq_true rfl), (Nat.le_of_ble_eq_true rfl)⟩)  rfl rfl hl.1 (Nat.le_of_ble_eq_true rfl) ⟨(Nat.le_of_ble_eq_true rfl), (Nat.le_of_ble_eq_true rfl)⟩ dX6_canPair_19 (fun H locs hR hS => ?_)
      refine lv_if_eq (tgt := 29) hx hb dX6_canPair_22 (by decide) (fun c_9 => ?_) (fun c_9 => ?_)
      · replace hf := ite_t c_9 hf
        refine lv_iconst (v := (0 : Int32)) hx hb dX6_canPair_29 (by decide) ?_
        exact eZ X hR hS (by decide) (Option.some.inj hf) rfl dX6_canPair_30
      · replace hf := ite_f c_9 hf
        refine lv_iconst (v := (1 : Int32)) hx hb dX6_canPair_25 (by decide) ?_
        refine lv_goto (tgt := 30) hx hb dX6_canPair_26 (by decide) ?_
        exact eZ X hR hS (by decide) (Option.some.inj hf) rfl dX6_canPair_30
theorem zcX6_canPair (l : Launch) (D : va_G) (cy : Nat → ClassId) (ad : Nat → Nat) (ba : Nat) (O : Int64) (S : teS) (r0 : Nat) (x1 : Int32) (x2 : Int32) (hr0 : teK r0 = true) (res : Int32) (hf : fX6_canPair r0 x1 x2 S = some res) : cI l yX6_canPair wsX6_canPair rmX6_canPair D cy ad ba O S [.ref (ad r0), .int x1, .int x2] res S :=
  te_of (by decide +kernel) rfl (Nat.le_of_ble_eq_true rfl) (fun p e s m below meth c ls X hR hS hl => bX6_canPair_0 (S := S) (r0 := r0) (x1 := x1) (x2 := x2) hr0 X _ _ _ hR hS hl hf)
abbrev rmX6_pair : Room := { frames := 4, cells := 0, slots := 0, locals := 87 }
theorem kdX6_pair : yX6_pair.cls = RX6 ∧ yX6_pair.cls ≠ "java/lang/invoke/MethodHandle" ∧ yX6_pair.cls ≠ "java/lang/invoke/VarHandle" ∧ (parseMethodDescriptor yX6_pair.desc).map (fun d => d.parameters.length) = some 2 := by decide +kernel
theorem wX6_pair_16 : Cond.fieldLink RX6 16 "TandemExchangeModel" "now" "[I" ∈ wsX6_pair := by decide +kernel
theorem iX6_pair_6 : ∀ w ∈ wsX60, w ∈ wsX6_pair := by decide +kernel
set_option maxRecDepth 100000 in
set_option maxHeartbeats 4000000 in
theorem bX6_pair_53 {p : Program} {l : Launch} {e : Env} {s : State} {m : MethodId} {args : Array Value} {below : List Frame} {meth : Method} {c : Code} {D : va_G} {cy : Nat → ClassId} {ad : Nat → Nat} {ba : Nat} {O : Int64} {S : teS}  {x1 : Int32} {x2 : Int32} {res : (Int32 × teS)} (X : teC wsX6_pair RX6 cX6_pair 3 (some .int) D cy ba p s m args meth c) : ∀ (S1 : teS) (y0 : Int32) (H : Heap) (locs : List Loc) (ls : Array Slot), teR D cy ad ba O S1 H → va_S (teA ba) s.heap H locs → lv_has ls 3 [(0, .ref (ad 369)), (1, .int x1), (2, .int x2)] → fX6_pair_53 x1 x2 S1 y0 = some res → W p l e (headSpec wsX6_pair rmX6_pair).room s m args below meth c H locs 0 0 (MQ below (va_Qi (fun a (u : teS) => a = res.1 ∧ u = res.2) (fun u t => teR D cy ad ba O u t.heap) (teA ba)) args s 0 0 (teA ba)) (F0 m 53 ls [.int y0, .ref (ad 369)]) := by
  have hx := X.1
  have hb := X.2.1
  have hown := X.2.2.2.2.1
  intro S1 y0 H locs ls hR hS hl hf
  unfold fX6_pair_53 at hf
  obtain ⟨r_11, S2, hq_12, hf⟩ := bd2_some hf
  refine kVi (id := 369) (As := [.int y0]) (rest := []) X hR hS (zcX6_refused l D cy ad ba O S1 y0 _ _ hq_12) (cwV 1 X.2.2.2.2.2.1 gX6_pair_X6_refused rfl rfl rfl kdX6_refused ⟨(Nat.le_of_ble_eq_true rfl), (Nat.le_of_ble_eq_true rfl)⟩) (by decide) rfl rfl rfl rfl hl.1 (Nat.le_of_ble_eq_true rfl) ⟨(Nat.le_of_ble_eq_true rfl), (Nat.le_of_ble_eq_true rfl)⟩ dX6_pair_53 (fun H locs hR hS => ?_)
  refine lv_if_eq (tgt := 61) hx hb dX6_pair_56 (by decide) (fun c_13 => ?_) (fun c_13 => ?_)
  · replace hf := ite_t c_13 hf
    refine lv_aload_n hx hb dX6_pair_61 rfl (lv_at hl 0 rfl) ?_
    obtain ⟨S3, hq_15, hf⟩ := bd1_some hf
    refine kVv (id := 369) (As := []) (rest := []) X hR hS (zcX6_note l D cy ad ba O S2 _ hq_15) (cwV 0 X.2.2.2.2.2.1 gX6_pair_X6_note rfl rfl rfl kdX6_note ⟨(Nat.le_of_ble_eq_true rfl), (Nat.le_of_ble_eq_true rfl)⟩) (by decide) rfl rfl rfl rfl hl.1 (Nat.le_of_ble_eq_true rfl) ⟨(Nat.le_of_ble_eq_true rfl), (Nat.le_of_ble_eq_true rfl)⟩ dX6_pair_62 (fun H locs hR hS => ?_)
    refine lv_aload_n hx hb dX6_pair_65 rfl (lv_at hl 0 rfl) ?_
    refine rg_6_5 X hR iX6_pair_6 wX6_pair_16 dX6_pair_66 ?_
    refine lv_iload_n hx hb dX6_pair_69 rfl (lv_at hl 1 rfl) ?_
    refine lv_iload_n hx hb dX6_pair_70 rfl (lv_at hl 2 rfl) ?_
    obtain ⟨S4, hq_17, hf⟩ := bd1_some hf
    refine kSv (As := [.ref (ad 372), .int x1, .int x2]) (rest := []) X hR hS (zcX6_pairOn l D cy ad ba O S3 372 x1 x2 rfl _ hq_17) (va_cwS 3 X.2.2.2.2.2.1 gX6_pair_X6_pairOn rfl rfl rfl kdX6_pairOn.2 ⟨(Nat.le_of_ble_eq_true rfl), (Nat.le_of_ble_eq_true rfl)⟩)  rfl rfl hl.1 (Nat.le_of_ble_eq_true rfl) ⟨(Nat.le_of_ble_eq_true rfl), (Nat.le_of_ble_eq_true rfl)⟩ dX6_pair_71 (fun H locs hR hS => ?_)
    refine lv_aload_n hx hb dX6_pair_74 rfl (lv_at hl 0 rfl) ?_
    refine rg_6_5 X hR iX6_pair_6 wX6_pair_16 dX6_pair_75 ?_
    refine lv_iload_n hx hb dX6_pair_78 rfl (lv_at hl 1 rfl) ?_
    refine lv_iload_n hx hb dX6_pair_79 rfl (lv_at hl 2 rfl) ?_
    obtain ⟨r_18, hq_19, hf⟩ := bd1_some hf
    refine kSi (As := [.ref (ad 372), .int x1, .int x2]) (rest := []) X hR hS (zcX6_valueOf l D cy ad ba O S4 372 x1 x2 rfl _ hq_19) (va_cwS 3 X.2.2.2.2.2.1 gX6_pair_X6_valueOf rfl rfl rfl kdX6_valueOf.2 ⟨(Nat.le_of_ble_eq_true rfl), (Nat.le_of_ble_eq_true rfl)⟩)  rfl rfl hl.1 (Nat.le_of_ble_eq_true rfl) ⟨(Nat.le_of_ble_eq_true rfl), (Nat.le_of_ble_eq_true rfl)⟩ dX6_pair_80 (fun H locs hR hS => ?_)
    exact eI X hR hS (congrArg Prod.fst (Option.some.inj hf)) (congrArg Prod.snd (Option.some.inj hf)) dX6_pair_83
  · replace hf := ite_f c_13 hf
    refine lv_iconst (v := (0 : Int32)) hx hb dX6_pair_59 (by decide) ?_
    exact eI X hR hS (congrArg Prod.fst (Option.some.inj hf)) (congrArg Prod.snd (Option.some.inj hf)) dX6_pair_60
set_option maxRecDepth 100000 in
set_option maxHeartbeats 4000000 in
theorem bX6_pair_0 {p : Program} {l : Launch} {e : Env} {s : State} {m : MethodId} {args : Array Value} {below : List Frame} {meth : Method} {c : Code} {D : va_G} {cy : Nat → ClassId} {ad : Nat → Nat} {ba : Nat} {O : Int64} {S : teS}  {x1 : Int32} {x2 : Int32} {res : (Int32 × teS)} (X : teC wsX6_pair RX6 cX6_pair 3 (some .int) D cy ba p s m args meth c) (H : Heap) (locs : List Loc) (ls : Array Slot) (hR : teR D cy ad ba O S H) (hS : va_S (teA ba) s.heap H locs) (hl : lv_has ls 3 [(0, .ref (ad 369)), (1, .int x1), (2, .int x2)]) (hf : fX6_pair x1 x2 S = some res) : W p l e (headSpec wsX6_pair rmX6_pair).room s m args below meth c H locs 0 0 (MQ below (va_Qi (fun a (u : teS) => a = res.1 ∧ u = res.2) (fun u t => teR D cy ad ba O u t.heap) (teA ba)) args s 0 0 (teA ba)) (F0 m 0 ls []) := by
  have hx := X.1
  have hb := X.2.1
  have hown := X.2.2.2.2.1
  unfold fX6_pair at hf
  refine lv_aload_n hx hb dX6_pair_0 rfl (lv_at hl 0 rfl) ?_
  refine lv_aload_n hx hb dX6_pair_1 rfl (lv_at hl 0 rfl) ?_
  refine rg_6_5 X hR iX6_pair_6 wX6_pair_16 dX6_pair_2 ?_
  refine lv_iload_n hx hb dX6_pair_5 rfl (lv_at hl 1 rfl) ?_
  obtain ⟨r_1, hq_2, hf⟩ := bd1_some hf
  refine kSi (As := [.ref (ad 372), .int x1]) (rest := [.ref (ad 369)]) X hR hS (zcX6_isMember l D cy ad ba O S 372 x1 rfl _ hq_2) (va_cwS 2 X.2.2.2.2.2.1 gX6_pair_X6_isMember rfl rfl rfl kdX6_isMember.2 ⟨(Nat.le_of_ble_eq_true rfl), (Nat.le_of_ble_eq_true rfl)⟩)  rfl rfl hl.1 (Nat.le_of_ble_eq_true rfl) ⟨(Nat.le_of_ble_eq_true rfl), (Nat.le_of_ble_eq_true rfl)⟩ dX6_pair_6 (fun H locs hR hS => ?_)
  refine lv_if_eq (tgt := 23) hx hb dX6_pair_9 (by decide) (fun c_3 => ?_) (fun c_3 => ?_)
  · replace hf := ite_t c_3 hf
    refine lv_iconst (v := (1 : Int32)) hx hb dX6_pair_23 (by decide) ?_
    refine lv_goto (tgt := 53) hx hb dX6_pair_24 (by decide) ?_
    exact bX6_pair_53 (S := S) (x1 := x1) (x2 := x2) X S ((1 : Int32)) _ _ _ hR hS (lv_sub hl [0, 1, 2] rfl) hf
  · replace hf := ite_f c_3 hf
    refine lv_aload_n hx hb dX6_pair_12 rfl (lv_at hl 0 rfl) ?_
    refine rg_6_5 X hR iX6_pair_6 wX6_pair_16 dX6_pair_13 ?_
    refine lv_iload_n hx hb dX6_pair_16 rfl (lv_at hl 2 rfl) ?_
    obtain ⟨r_4, hq_5, hf⟩ := bd1_some hf
    refine kSi (As := [.ref (ad 372), .int x2]) (rest := [.ref (ad 369)]) X hR hS (zcX6_isMember l D cy ad ba O S 372 x2 rfl _ hq_5) (va_cwS 2 X.2.2.2.2.2.1 gX6_pair_X6_isMember rfl rfl rfl kdX6_isMember.2 ⟨(Nat.le_of_ble_eq_true rfl), (Nat.le_of_ble_eq_true rfl)⟩)  rfl rfl hl.1 (Nat.le_of_ble_eq_true rfl) ⟨(Nat.le_of_ble_eq_true rfl), (Nat.le_of_ble_eq_true rfl)⟩ dX6_pair_17 (fun H locs hR hS => ?_)
    refine lv_if_ne (tgt := 27) hx hb dX6_pair_20 (by decide) (fun c_6 => ?_) (fun c_6 => ?_)
    · replace hf := ite_f c_6 hf
      refine lv_iload_n hx hb dX6_pair_27 rfl (lv_at hl 1 rfl) ?_
      refine lv_iload_n hx hb dX6_pair_28 rfl (lv_at hl 2 rfl) ?_
      refine lv_icmp_ne (tgt := 36) hx hb dX6_pair_29 (by decide) (fun c_7 => ?_) (fun c_7 => ?_)
      · replace hf := ite_f c_7 hf
        refine lv_aload_n hx hb dX6_pair_36 rfl (lv_at hl 0 rfl) ?_
        refine rg_6_5 X hR iX6_pair_6 wX6_pair_16 dX6_pair_37 ?_
        refine lv_iload_n hx hb dX6_pair_40 rfl (lv_at hl 1 rfl) ?_
        refine lv_iload_n hx hb dX6_pair_41 rfl (lv_at hl 2 rfl) ?_
        obtain ⟨r_8, hq_9, hf⟩ := bd1_some hf
        refine kSi (As := [.ref (ad 372), .int x1, .int x2]) (rest := [.ref (ad 369)]) X hR hS (zcX6_canPair l D cy ad ba O S 372 x1 x2 rfl _ hq_9) (va_cwS 3 X.2.2.2.2.2.1 gX6_pair_X6_canPair rfl rfl rfl kdX6_canPair.2 ⟨(Nat.le_of_ble_eq_true rfl), (Nat.le_of_ble_eq_true rfl)⟩)  rfl rfl hl.1 (Nat.le_of_ble_eq_true rfl) ⟨(Nat.le_of_ble_eq_true rfl), (Nat.le_of_ble_eq_true rfl)⟩ dX6_pair_42 (fun H locs hR hS => ?_)
        refine lv_if_ne (tgt := 52) hx hb dX6_pair_45 (by decide) (fun c_10 => ?_) (fun c_10 => ?_)
        · replace hf := ite_f c_10 hf
          refine lv_iconst (v := (0 : Int32)) hx hb dX6_pair_52 (by decide) ?_
          exact bX6_pair_53 (S := S) (x1 := x1) (x2 := x2) X S ((0 : Int32)) _ _ _ hR hS (lv_sub hl [0, 1, 2] rfl) hf
        · replace hf := ite_t c_10 hf
          refine lv_iconst (v := (3 : Int32)) hx hb dX6_pair_48 (by decide) ?_
          refine lv_goto (tgt := 53) hx hb dX6_pair_49 (by decide) ?_
          exact bX6_pair_53 (S := S) (x1 := x1) (x2 := x2) X S ((3 : Int32)) _ _ _ hR hS (lv_sub hl [0, 1, 2] rfl) hf
      · replace hf := ite_t c_7 hf
        refine lv_iconst (v := (2 : Int32)) hx hb dX6_pair_32 (by decide) ?_
        refine lv_goto (tgt := 53) hx hb dX6_pair_33 (by decide) ?_
        exact bX6_pair_53 (S := S) (x1 := x1) (x2 := x2) X S ((2 : Int32)) _ _ _ hR hS (lv_sub hl [0, 1, 2] rfl) hf
    · replace hf := ite_t c_6 hf
      refine lv_iconst (v := (1 : Int32)) hx hb dX6_pair_23 (by decide) ?_
      refine lv_goto (tgt := 53) hx hb dX6_pair_24 (by decide) ?_
      exact bX6_pair_53 (S := S) (x1 := x1) (x2 := x2) X S ((1 : Int32)) _ _ _ hR hS (lv_sub hl [0, 1, 2] rfl) hf
theorem zcX6_pair (l : Launch) (D : va_G) (cy : Nat → ClassId) (ad : Nat → Nat) (ba : Nat) (O : Int64) (S : teS) (x1 : Int32) (x2 : Int32) (r : Int32) (S1 : teS) (hf : fX6_pair x1 x2 S = some (r, S1)) : cI l yX6_pair wsX6_pair rmX6_pair D cy ad ba O S [.ref (ad 369), .int x1, .int x2] r S1 :=
  te_of (by decide) rfl (Nat.le_of_ble_eq_true rfl) (fun p e s m below meth c ls X hR hS hl => bX6_pair_0 (res := (r, S1)) (S := S) (x1 := x1) (x2 := x2) X _ _ _ hR hS hl hf)
abbrev rmX6_part : Room := { frames := 3, cells := 0, slots := 0, locals := 63 }
theorem kdX6_part : yX6_part.cls = RX6 ∧ yX6_part.cls ≠ "java/lang/invoke/MethodHandle" ∧ yX6_part.cls ≠ "java/lang/invoke/VarHandle" ∧ (parseMethodDescriptor yX6_part.desc).map (fun d => d.parameters.length) = some 1 := by decide +kernel
theorem wX6_part_16 : Cond.fieldLink RX6 16 "TandemExchangeModel" "now" "[I" ∈ wsX6_part := by decide +kernel
theorem iX6_part_6 : ∀ w ∈ wsX60, w ∈ wsX6_part := by decide +kernel
set_option maxRecDepth 100000 in
set_option maxHeartbeats 4000000 in
theorem bX6_part_32 {p : Program} {l : Launch} {e : Env} {s : State} {m : MethodId} {args : Array Value} {below : List Frame} {meth : Method} {c : Code} {D : va_G} {cy : Nat → ClassId} {ad : Nat → Nat} {ba : Nat} {O : Int64} {S : teS}  {x1 : Int32} {res : (Int32 × teS)} (X : teC wsX6_part RX6 cX6_part 3 (some .int) D cy ba p s m args meth c) : ∀ (S1 : teS) (y0 : Int32) (H : Heap) (locs : List Loc) (ls : Array Slot), teR D cy ad ba O S1 H → va_S (teA ba) s.heap H locs → lv_has ls 3 [(0, .ref (ad 369)), (1, .int x1)] → fX6_part_32 x1 S1 y0 = some res → W p l e (headSpec wsX6_part rmX6_part).room s m args below meth c H locs 0 0 (MQ below (va_Qi (fun a (u : teS) => a = res.1 ∧ u = res.2) (fun u t => teR D cy ad ba O u t.heap) (teA ba)) args s 0 0 (teA ba)) (F0 m 32 ls [.int y0, .ref (ad 369)]) := by
  have hx := X.1
  have hb := X.2.1
  have hown := X.2.2.2.2.1
  intro S1 y0 H locs ls hR hS hl hf
  unfold fX6_part_32 at hf
  obtain ⟨r_7, S2, hq_8, hf⟩ := bd2_some hf
  refine kVi (id := 369) (As := [.int y0]) (rest := []) X hR hS (zcX6_refused l D cy ad ba O S1 y0 _ _ hq_8) (cwV 1 X.2.2.2.2.2.1 gX6_part_X6_refused rfl rfl rfl kdX6_refused ⟨(Nat.le_of_ble_eq_true rfl), (Nat.le_of_ble_eq_true rfl)⟩) (by decide) rfl rfl rfl rfl hl.1 (Nat.le_of_ble_eq_true rfl) ⟨(Nat.le_of_ble_eq_true rfl), (Nat.le_of_ble_eq_true rfl)⟩ dX6_part_32 (fun H locs hR hS => ?_)
  refine lv_if_eq (tgt := 40) hx hb dX6_part_35 (by decide) (fun c_9 => ?_) (fun c_9 => ?_)
  · replace hf := ite_t c_9 hf
    refine lv_aload_n hx hb dX6_part_40 rfl (lv_at hl 0 rfl) ?_
    obtain ⟨S3, hq_11, hf⟩ := bd1_some hf
    refine kVv (id := 369) (As := []) (rest := []) X hR hS (zcX6_note l D cy ad ba O S2 _ hq_11) (cwV 0 X.2.2.2.2.2.1 gX6_part_X6_note rfl rfl rfl kdX6_note ⟨(Nat.le_of_ble_eq_true rfl), (Nat.le_of_ble_eq_true rfl)⟩) (by decide) rfl rfl rfl rfl hl.1 (Nat.le_of_ble_eq_true rfl) ⟨(Nat.le_of_ble_eq_true rfl), (Nat.le_of_ble_eq_true rfl)⟩ dX6_part_41 (fun H locs hR hS => ?_)
    refine lv_aload_n hx hb dX6_part_44 rfl (lv_at hl 0 rfl) ?_
    refine rg_6_5 X hR iX6_part_6 wX6_part_16 dX6_part_45 ?_
    refine lv_iload_n hx hb dX6_part_48 rfl (lv_at hl 1 rfl) ?_
    obtain ⟨r_12, hq_13, hf⟩ := bd1_some hf
    refine kSi (As := [.int x1]) (rest := [.ref (ad 372)]) X hR hS (zcX6_at l D cy ad ba O S3 x1 _ hq_13) (va_cwS 1 X.2.2.2.2.2.1 gX6_part_X6_at rfl rfl rfl kdX6_at.2 ⟨(Nat.le_of_ble_eq_true rfl), (Nat.le_of_ble_eq_true rfl)⟩)  rfl rfl hl.1 (Nat.le_of_ble_eq_true rfl) ⟨(Nat.le_of_ble_eq_true rfl), (Nat.le_of_ble_eq_true rfl)⟩ dX6_part_49 (fun H locs hR hS => ?_)
    refine lv_bipush (v := (8 : Int32)) hx hb dX6_part_52 (by decide) ?_
    refine lv_iadd hx hb dX6_part_54 ?_
    obtain ⟨h_14, hf⟩ := chk_some hf
    refine ra_int X hR (r := 372) rfl h_14 dX6_part_55 ?_
    refine lv_istore_n (lv' := [(2, .int (S3 372 (r_12 + (8 : Int32)).toNatClampNeg)), (0, .ref (ad 369)), (1, .int x1)]) hx hb dX6_part_56 rfl hl (by decide) rfl (fun ls hl => ?_)
    refine lv_aload_n hx hb dX6_part_57 rfl (lv_at hl 1 rfl) ?_
    refine rg_6_5 X hR iX6_part_6 wX6_part_16 dX6_part_58 ?_
    refine lv_iload_n hx hb dX6_part_61 rfl (lv_at hl 2 rfl) ?_
    obtain ⟨S4, hq_16, hf⟩ := bd1_some hf
    refine kSv (As := [.ref (ad 372), .int x1]) (rest := []) X hR hS (zcX6_partOn l D cy ad ba O S3 372 x1 rfl _ hq_16) (va_cwS 2 X.2.2.2.2.2.1 gX6_part_X6_partOn rfl rfl rfl kdX6_partOn.2 ⟨(Nat.le_of_ble_eq_true rfl), (Nat.le_of_ble_eq_true rfl)⟩)  rfl rfl hl.1 (Nat.le_of_ble_eq_true rfl) ⟨(Nat.le_of_ble_eq_true rfl), (Nat.le_of_ble_eq_true rfl)⟩ dX6_part_62 (fun H locs hR hS => ?_)
    refine lv_iload_n hx hb dX6_part_65 rfl (lv_at hl 0 rfl) ?_
    exact eI X hR hS (congrArg Prod.fst (Option.some.inj hf)) (congrArg Prod.snd (Option.some.inj hf)) dX6_part_66
  · replace hf := ite_f c_9 hf
    refine lv_iconst (v := (0 : Int32)) hx hb dX6_part_38 (by decide) ?_
    exact eI X hR hS (congrArg Prod.fst (Option.some.inj hf)) (congrArg Prod.snd (Option.some.inj hf)) dX6_part_39
set_option maxRecDepth 100000 in
set_option maxHeartbeats 4000000 in
theorem bX6_part_0 {p : Program} {l : Launch} {e : Env} {s : State} {m : MethodId} {args : Array Value} {below : List Frame} {meth : Method} {c : Code} {D : va_G} {cy : Nat → ClassId} {ad : Nat → Nat} {ba : Nat} {O : Int64} {S : teS}  {x1 : Int32} {res : (Int32 × teS)} (X : teC wsX6_part RX6 cX6_part 3 (some .int) D cy ba p s m args meth c) (H : Heap) (locs : List Loc) (ls : Array Slot) (hR : teR D cy ad ba O S H) (hS : va_S (teA ba) s.heap H locs) (hl : lv_has ls 3 [(0, .ref (ad 369)), (1, .int x1)]) (hf : fX6_part x1 S = some res) : W p l e (headSpec wsX6_part rmX6_part).room s m args below meth c H locs 0 0 (MQ below (va_Qi (fun a (u : teS) => a = res.1 ∧ u = res.2) (fun u t => teR D cy ad ba O u t.heap) (teA ba)) args s 0 0 (teA ba)) (F0 m 0 ls []) := by
  have hx := X.1
  have hb := X.2.1
  have hown := X.2.2.2.2.1
  unfold fX6_part at hf
  refine lv_aload_n hx hb dX6_part_0 rfl (lv_at hl 0 rfl) ?_
  refine lv_aload_n hx hb dX6_part_1 rfl (lv_at hl 0 rfl) ?_
  refine rg_6_5 X hR iX6_part_6 wX6_part_16 dX6_part_2 ?_
  refine lv_iload_n hx hb dX6_part_5 rfl (lv_at hl 1 rfl) ?_
  obtain ⟨r_1, hq_2, hf⟩ := bd1_some hf
  refine kSi (As := [.ref (ad 372), .int x1]) (rest := [.ref (ad 369)]) X hR hS (zcX6_isMember l D cy ad ba O S 372 x1 rfl _ hq_2) (va_cwS 2 X.2.2.2.2.2.1 gX6_part_X6_isMember rfl rfl rfl kdX6_isMember.2 ⟨(Nat.le_of_ble_eq_true rfl), (Nat.le_of_ble_eq_true rfl)⟩)  rfl rfl hl.1 (Nat.le_of_ble_eq_true rfl) ⟨(Nat.le_of_ble_eq_true rfl), (Nat.le_of_ble_eq_true rfl)⟩ dX6_part_6 (fun H locs hR hS => ?_)
  refine lv_if_ne (tgt := 16) hx hb dX6_part_9 (by decide) (fun c_3 => ?_) (fun c_3 => ?_)
  · replace hf := ite_f c_3 hf
    refine lv_aload_n hx hb dX6_part_16 rfl (lv_at hl 0 rfl) ?_
    refine rg_6_5 X hR iX6_part_6 wX6_part_16 dX6_part_17 ?_
    refine lv_iload_n hx hb dX6_part_20 rfl (lv_at hl 1 rfl) ?_
    obtain ⟨r_4, hq_5, hf⟩ := bd1_some hf
    refine kSi (As := [.ref (ad 372), .int x1]) (rest := [.ref (ad 369)]) X hR hS (zcX6_isFree l D cy ad ba O S 372 x1 rfl _ hq_5) (va_cwS 2 X.2.2.2.2.2.1 gX6_part_X6_isFree rfl rfl rfl kdX6_isFree.2 ⟨(Nat.le_of_ble_eq_true rfl), (Nat.le_of_ble_eq_true rfl)⟩)  rfl rfl hl.1 (Nat.le_of_ble_eq_true rfl) ⟨(Nat.le_of_ble_eq_true rfl), (Nat.le_of_ble_eq_true rfl)⟩ dX6_part_21 (fun H locs hR hS => ?_)
    refine lv_if_eq (tgt := 31) hx hb dX6_part_24 (by decide) (fun c_6 => ?_) (fun c_6 => ?_)
    · replace hf := ite_t c_6 hf
      refine lv_iconst (v := (0 : Int32)) hx hb dX6_part_31 (by decide) ?_
      exact bX6_part_32 (S := S) (x1 := x1) X S ((0 : Int32)) _ _ _ hR hS (lv_sub hl [0, 1] rfl) hf
    · replace hf := ite_f c_6 hf
      refine lv_iconst (v := (2 : Int32)) hx hb dX6_part_27 (by decide) ?_
      refine lv_goto (tgt := 32) hx hb dX6_part_28 (by decide) ?_
      exact bX6_part_32 (S := S) (x1 := x1) X S ((2 : Int32)) _ _ _ hR hS (lv_sub hl [0, 1] rfl) hf
  · replace hf := ite_t c_3 hf
    refine lv_iconst (v := (1 : Int32)) hx hb dX6_part_12 (by decide) ?_
    refine lv_goto (tgt := 32) hx hb dX6_part_13 (by decide) ?_
    exact bX6_part_32 (S := S) (x1 := x1) X S ((1 : Int32)) _ _ _ hR hS (lv_sub hl [0, 1] rfl) hf
theorem zcX6_part (l : Launch) (D : va_G) (cy : Nat → ClassId) (ad : Nat → Nat) (ba : Nat) (O : Int64) (S : teS) (x1 : Int32) (r : Int32) (S1 : teS) (hf : fX6_part x1 S = some (r, S1)) : cI l yX6_part wsX6_part rmX6_part D cy ad ba O S [.ref (ad 369), .int x1] r S1 :=
  te_of (by decide) rfl (Nat.le_of_ble_eq_true rfl) (fun p e s m below meth c ls X hR hS hl => bX6_part_0 (res := (r, S1)) (S := S) (x1 := x1) X _ _ _ hR hS hl hf)
abbrev rmX6_match : Room := { frames := 5, cells := 0, slots := 0, locals := 114 }
theorem kdX6_match : yX6_match.cls = RX6 ∧ yX6_match.cls ≠ "java/lang/invoke/MethodHandle" ∧ yX6_match.cls ≠ "java/lang/invoke/VarHandle" ∧ (parseMethodDescriptor yX6_match.desc).map (fun d => d.parameters.length) = some 0 := by decide +kernel
theorem wX6_match_38 : Cond.fieldLink RX6 38 "TandemExchangeModel" "refusal" "I" ∈ wsX6_match := by decide +kernel
theorem iX6_match_6 : ∀ w ∈ wsX60, w ∈ wsX6_match := by decide +kernel
theorem wX6_match_16 : Cond.fieldLink RX6 16 "TandemExchangeModel" "now" "[I" ∈ wsX6_match := by decide +kernel
set_option maxRecDepth 100000 in
set_option maxHeartbeats 4000000 in
theorem bX6_match_0 {p : Program} {l : Launch} {e : Env} {s : State} {m : MethodId} {args : Array Value} {below : List Frame} {meth : Method} {c : Code} {D : va_G} {cy : Nat → ClassId} {ad : Nat → Nat} {ba : Nat} {O : Int64} {S : teS}  {res : (Int32 × teS)} (X : teC wsX6_match RX6 cX6_match 1 (some .int) D cy ba p s m args meth c) (H : Heap) (locs : List Loc) (ls : Array Slot) (hR : teR D cy ad ba O S H) (hS : va_S (teA ba) s.heap H locs) (hl : lv_has ls 1 [(0, .ref (ad 369))]) (hf : fX6_match S = some res) : W p l e (headSpec wsX6_match rmX6_match).room s m args below meth c H locs 0 0 (MQ below (va_Qi (fun a (u : teS) => a = res.1 ∧ u = res.2) (fun u t => teR D cy ad ba O u t.heap) (teA ba)) args s 0 0 (teA ba)) (F0 m 0 ls []) := by
  have hx := X.1
  have hb := X.2.1
  have hown := X.2.2.2.2.1
  unfold fX6_match at hf
  refine lv_aload_n hx hb dX6_match_0 rfl (lv_at hl 0 rfl) ?_
  refine lv_iconst (v := (0 : Int32)) hx hb dX6_match_1 (by decide) ?_
  refine rp_6_0 X hR hS iX6_match_6 wX6_match_38 dX6_match_2 (fun H locs hR hS => ?_)
  generalize teu S 369 0 (0 : Int32) = S1 at hf hR
  replace hf := lt1_e hf
  refine lv_aload_n hx hb dX6_match_5 rfl (lv_at hl 0 rfl) ?_
  obtain ⟨S2, hq_2, hf⟩ := bd1_some hf
  refine kVv (id := 369) (As := []) (rest := []) X hR hS (zcX6_note l D cy ad ba O S1 _ hq_2) (cwV 0 X.2.2.2.2.2.1 gX6_match_X6_note rfl rfl rfl kdX6_note ⟨(Nat.le_of_ble_eq_true rfl), (Nat.le_of_ble_eq_true rfl)⟩) (by decide) rfl rfl rfl rfl hl.1 (Nat.le_of_ble_eq_true rfl) ⟨(Nat.le_of_ble_eq_true rfl), (Nat.le_of_ble_eq_true rfl)⟩ dX6_match_6 (fun H locs hR hS => ?_)
  refine lv_aload_n hx hb dX6_match_9 rfl (lv_at hl 0 rfl) ?_
  refine rg_6_5 X hR iX6_match_6 wX6_match_16 dX6_match_10 ?_
  obtain ⟨r_3, S3, hq_4, hf⟩ := bd2_some hf
  refine kSi (As := [.ref (ad 372)]) (rest := []) X hR hS (zcX6_matchOn l D cy ad ba O S2 372 rfl _ _ hq_4) (va_cwS 1 X.2.2.2.2.2.1 gX6_match_X6_matchOn rfl rfl rfl kdX6_matchOn.2 ⟨(Nat.le_of_ble_eq_true rfl), (Nat.le_of_ble_eq_true rfl)⟩)  rfl rfl hl.1 (Nat.le_of_ble_eq_true rfl) ⟨(Nat.le_of_ble_eq_true rfl), (Nat.le_of_ble_eq_true rfl)⟩ dX6_match_13 (fun H locs hR hS => ?_)
  exact eI X hR hS (congrArg Prod.fst (Option.some.inj hf)) (congrArg Prod.snd (Option.some.inj hf)) dX6_match_16
theorem zcX6_match (l : Launch) (D : va_G) (cy : Nat → ClassId) (ad : Nat → Nat) (ba : Nat) (O : Int64) (S : teS) (r : Int32) (S1 : teS) (hf : fX6_match S = some (r, S1)) : cI l yX6_match wsX6_match rmX6_match D cy ad ba O S [.ref (ad 369)] r S1 :=
  te_of (by decide) rfl (Nat.le_of_ble_eq_true rfl) (fun p e s m below meth c ls X hR hS hl => bX6_match_0 (res := (r, S1)) (S := S)  X _ _ _ hR hS hl hf)
abbrev rmX6_settle : Room := { frames := 7, cells := 0, slots := 0, locals := 156 }
theorem kdX6_settle : yX6_settle.cls = RX6 ∧ yX6_settle.cls ≠ "java/lang/invoke/MethodHandle" ∧ yX6_settle.cls ≠ "java/lang/invoke/VarHandle" ∧ (parseMethodDescriptor yX6_settle.desc).map (fun d => d.parameters.length) = some 1 := by decide +kernel
theorem wX6_settle_182 : Cond.constantLong RX6 182 (50) ∈ wsX6_settle := by decide +kernel
theorem wX6_settle_16 : Cond.fieldLink RX6 16 "TandemExchangeModel" "now" "[I" ∈ wsX6_settle := by decide +kernel
theorem iX6_settle_6 : ∀ w ∈ wsX60, w ∈ wsX6_settle := by decide +kernel
set_option maxRecDepth 100000 in
set_option maxHeartbeats 4000000 in
theorem bX6_settle_18 {p : Program} {l : Launch} {e : Env} {s : State} {m : MethodId} {args : Array Value} {below : List Frame} {meth : Method} {c : Code} {D : va_G} {cy : Nat → ClassId} {ad : Nat → Nat} {ba : Nat} {O : Int64} {S : teS}  {x1 : Int32} {res : (Int32 × teS)} (X : teC wsX6_settle RX6 cX6_settle 2 (some .int) D cy ba p s m args meth c) : ∀ (S1 : teS) (y0 : Int32) (H : Heap) (locs : List Loc) (ls : Array Slot), teR D cy ad ba O S1 H → va_S (teA ba) s.heap H locs → lv_has ls 2 [(0, .ref (ad 369)), (1, .int x1)] → fX6_settle_18 x1 S1 y0 = some res → W p l e (headSpec wsX6_settle rmX6_settle).room s m args below meth c H locs 0 0 (MQ below (va_Qi (fun a (u : teS) => a = res.1 ∧ u = res.2) (fun u t => teR D cy ad ba O u t.heap) (teA ba)) args s 0 0 (teA ba)) (F0 m 18 ls [.int y0, .ref (ad 369)]) := by
  have hx := X.1
  have hb := X.2.1
  have hown := X.2.2.2.2.1
  intro S1 y0 H locs ls hR hS hl hf
  unfold fX6_settle_18 at hf
  obtain ⟨r_4, S2, hq_5, hf⟩ := bd2_some hf
  refine kVi (id := 369) (As := [.int y0]) (rest := []) X hR hS (zcX6_refused l D cy ad ba O S1 y0 _ _ hq_5) (cwV 1 X.2.2.2.2.2.1 gX6_settle_X6_refused rfl rfl rfl kdX6_refused ⟨(Nat.le_of_ble_eq_true rfl), (Nat.le_of_ble_eq_true rfl)⟩) (by decide) rfl rfl rfl rfl hl.1 (Nat.le_of_ble_eq_true rfl) ⟨(Nat.le_of_ble_eq_true rfl), (Nat.le_of_ble_eq_true rfl)⟩ dX6_settle_18 (fun H locs hR hS => ?_)
  refine lv_if_eq (tgt := 26) hx hb dX6_settle_21 (by decide) (fun c_6 => ?_) (fun c_6 => ?_)
  · replace hf := ite_t c_6 hf
    refine lv_aload_n hx hb dX6_settle_26 rfl (lv_at hl 0 rfl) ?_
    obtain ⟨S3, hq_8, hf⟩ := bd1_some hf
    refine kVv (id := 369) (As := []) (rest := []) X hR hS (zcX6_note l D cy ad ba O S2 _ hq_8) (cwV 0 X.2.2.2.2.2.1 gX6_settle_X6_note rfl rfl rfl kdX6_note ⟨(Nat.le_of_ble_eq_true rfl), (Nat.le_of_ble_eq_true rfl)⟩) (by decide) rfl rfl rfl rfl hl.1 (Nat.le_of_ble_eq_true rfl) ⟨(Nat.le_of_ble_eq_true rfl), (Nat.le_of_ble_eq_true rfl)⟩ dX6_settle_27 (fun H locs hR hS => ?_)
    refine lv_aload_n hx hb dX6_settle_30 rfl (lv_at hl 0 rfl) ?_
    refine rg_6_5 X hR iX6_settle_6 wX6_settle_16 dX6_settle_31 ?_
    refine lv_iload_n hx hb dX6_settle_34 rfl (lv_at hl 1 rfl) ?_
    obtain ⟨r_9, S4, hq_10, hf⟩ := bd2_some hf
    refine kSi (As := [.ref (ad 372), .int x1]) (rest := []) X hR hS (zcX6_settleOn l D cy ad ba O S3 372 x1 rfl _ _ hq_10) (va_cwS 2 X.2.2.2.2.2.1 gX6_settle_X6_settleOn rfl rfl rfl kdX6_settleOn.2 ⟨(Nat.le_of_ble_eq_true rfl), (Nat.le_of_ble_eq_true rfl)⟩)  rfl rfl hl.1 (Nat.le_of_ble_eq_true rfl) ⟨(Nat.le_of_ble_eq_true rfl), (Nat.le_of_ble_eq_true rfl)⟩ dX6_settle_35 (fun H locs hR hS => ?_)
    exact eI X hR hS (congrArg Prod.fst (Option.some.inj hf)) (congrArg Prod.snd (Option.some.inj hf)) dX6_settle_38
  · replace hf := ite_f c_6 hf
    refine lv_iconst (v := (0 : Int32)) hx hb dX6_settle_24 (by decide) ?_
    exact eI X hR hS (congrArg Prod.fst (Option.some.inj hf)) (congrArg Prod.snd (Option.some.inj hf)) dX6_settle_25
set_option maxRecDepth 100000 in
set_option maxHeartbeats 4000000 in
theorem bX6_settle_0 {p : Program} {l : Launch} {e : Env} {s : State} {m : MethodId} {args : Array Value} {below : List Frame} {meth : Method} {c : Code} {D : va_G} {cy : Nat → ClassId} {ad : Nat → Nat} {ba : Nat} {O : Int64} {S : teS}  {x1 : Int32} {res : (Int32 × teS)} (X : teC wsX6_settle RX6 cX6_settle 2 (some .int) D cy ba p s m args meth c) (H : Heap) (locs : List Loc) (ls : Array Slot) (hR : teR D cy ad ba O S H) (hS : va_S (teA ba) s.heap H locs) (hl : lv_has ls 2 [(0, .ref (ad 369)), (1, .int x1)]) (hf : fX6_settle x1 S = some res) : W p l e (headSpec wsX6_settle rmX6_settle).room s m args below meth c H locs 0 0 (MQ below (va_Qi (fun a (u : teS) => a = res.1 ∧ u = res.2) (fun u t => teR D cy ad ba O u t.heap) (teA ba)) args s 0 0 (teA ba)) (F0 m 0 ls []) := by
  have hx := X.1
  have hb := X.2.1
  have hown := X.2.2.2.2.1
  unfold fX6_settle at hf
  refine lv_aload_n hx hb dX6_settle_0 rfl (lv_at hl 0 rfl) ?_
  refine lv_iload_n hx hb dX6_settle_1 rfl (lv_at hl 1 rfl) ?_
  refine lv_i2l hx hb dX6_settle_2 rfl ?_
  refine lv_lconst (v := (1 : Int64)) hx hb dX6_settle_3 (by decide) ?_
  refine lv_ldc2 (v := (50 : Int64)) hx hb hown (X.2.2.2.2.2.1 _ wX6_settle_182) dX6_settle_4 ?_
  obtain ⟨r_1, hq_2, hf⟩ := bd1_some hf
  refine kSi (As := [.long (x1).toInt64, .long (1 : Int64), .long (50 : Int64)]) (rest := [.ref (ad 369)]) X hR hS (zcX6_in l D cy ad ba O S ((x1).toInt64) (1 : Int64) (50 : Int64) _ hq_2) (va_cwS 3 X.2.2.2.2.2.1 gX6_settle_X6_in rfl rfl rfl kdX6_in.2 ⟨(Nat.le_of_ble_eq_true rfl), (Nat.le_of_ble_eq_true rfl)⟩)  rfl rfl hl.1 (Nat.le_of_ble_eq_true rfl) ⟨(Nat.le_of_ble_eq_true rfl), (Nat.le_of_ble_eq_true rfl)⟩ dX6_settle_7 (fun H locs hR hS => ?_)
  refine lv_if_eq (tgt := 17) hx hb dX6_settle_10 (by decide) (fun c_3 => ?_) (fun c_3 => ?_)
  · replace hf := ite_t c_3 hf
    refine lv_iconst (v := (1 : Int32)) hx hb dX6_settle_17 (by decide) ?_
    exact bX6_settle_18 (S := S) (x1 := x1) X S ((1 : Int32)) _ _ _ hR hS (lv_sub hl [0, 1] rfl) hf
  · replace hf := ite_f c_3 hf
    refine lv_iconst (v := (0 : Int32)) hx hb dX6_settle_13 (by decide) ?_
    refine lv_goto (tgt := 18) hx hb dX6_settle_14 (by decide) ?_
    exact bX6_settle_18 (S := S) (x1 := x1) X S ((0 : Int32)) _ _ _ hR hS (lv_sub hl [0, 1] rfl) hf
theorem zcX6_settle (l : Launch) (D : va_G) (cy : Nat → ClassId) (ad : Nat → Nat) (ba : Nat) (O : Int64) (S : teS) (x1 : Int32) (r : Int32) (S1 : teS) (hf : fX6_settle x1 S = some (r, S1)) : cI l yX6_settle wsX6_settle rmX6_settle D cy ad ba O S [.ref (ad 369), .int x1] r S1 :=
  te_of (by decide) rfl (Nat.le_of_ble_eq_true rfl) (fun p e s m below meth c ls X hR hS hl => bX6_settle_0 (res := (r, S1)) (S := S) (x1 := x1) X _ _ _ hR hS hl hf)
abbrev rmX6_isAbsent : Room := { frames := 1, cells := 0, slots := 0, locals := 25 }
theorem kdX6_isAbsent : yX6_isAbsent.cls = RX6 ∧ yX6_isAbsent.cls ≠ "java/lang/invoke/MethodHandle" ∧ yX6_isAbsent.cls ≠ "java/lang/invoke/VarHandle" ∧ (parseMethodDescriptor yX6_isAbsent.desc).map (fun d => d.parameters.length) = some 1 := by decide +kernel
theorem wX6_isAbsent_187 : Cond.constantLong RX6 187 (511) ∈ wsX6_isAbsent := by decide +kernel
set_option maxRecDepth 100000 in
set_option maxHeartbeats 4000000 in
theorem bX6_isAbsent_0 {p : Program} {l : Launch} {e : Env} {s : State} {m : MethodId} {args : Array Value} {below : List Frame} {meth : Method} {c : Code} {D : va_G} {cy : Nat → ClassId} {ad : Nat → Nat} {ba : Nat} {O : Int64} {S : teS}  {x0 : Int32} {res : Int32} (X : teC wsX6_isAbsent RX6 cX6_isAbsent 1 (some .boolean) D cy ba p s m args meth c) (H : Heap) (locs : List Loc) (ls : Array Slot) (hR : teR D cy ad ba O S H) (hS : va_S (teA ba) s.heap H locs) (hl : lv_has ls 1 [(0, .int x0)]) (hf : fX6_isAbsent x0 S = some res) : W p l e (headSpec wsX6_isAbsent rmX6_isAbsent).room s m args below meth c H locs 0 0 (MQ below (va_Qi (fun a (u : teS) => a = res ∧ u = S) (fun u t => teR D cy ad ba O u t.heap) (teA ba)) args s 0 0 (teA ba)) (F0 m 0 ls []) := by
  have hx := X.1
  have hb := X.2.1
  have hown := X.2.2.2.2.1
  unfold fX6_isAbsent at hf
  refine lv_iload_n hx hb dX6_isAbsent_0 rfl (lv_at hl 0 rfl) ?_
  refine lv_i2l hx hb dX6_isAbsent_1 rfl ?_
  refine lv_lconst (v := (0 : Int64)) hx hb dX6_isAbsent_2 (by decide) ?_
  refine lv_ldc2 (v := (511 : Int64)) hx hb hown (X.2.2.2.2.2.1 _ wX6_isAbsent_187) dX6_isAbsent_3 ?_
  obtain ⟨r_1, hq_2, hf⟩ := bd1_some hf
  refine kSi (As := [.long (x0).toInt64, .long (0 : Int64), .long (511 : Int64)]) (rest := []) X hR hS (zcX6_in l D cy ad ba O S ((x0).toInt64) (0 : Int64) (511 : Int64) _ hq_2) (va_cwS 3 X.2.2.2.2.2.1 gX6_isAbsent_X6_in rfl rfl rfl kdX6_in.2 ⟨(Nat.le_of_ble_eq_true rfl), (Nat.le_of_ble_eq_true rfl)⟩)  rfl rfl hl.1 (Nat.le_of_ble_eq_true rfl) ⟨(Nat.le_of_ble_eq_true rfl), (Nat.le_of_ble_eq_true rfl)⟩ dX6_isAbsent_6 (fun H locs hR hS => ?_)
  obtain ⟨h_3, hf⟩ := chk_some hf
  exact eZ X hR hS (of_decide_eq_true h_3) (Option.some.inj hf) rfl dX6_isAbsent_9
theorem zcX6_isAbsent (l : Launch) (D : va_G) (cy : Nat → ClassId) (ad : Nat → Nat) (ba : Nat) (O : Int64) (S : teS) (x0 : Int32) (res : Int32) (hf : fX6_isAbsent x0 S = some res) : cI l yX6_isAbsent wsX6_isAbsent rmX6_isAbsent D cy ad ba O S [.int x0] res S :=
  te_of (by decide +kernel) rfl (Nat.le_of_ble_eq_true rfl) (fun p e s m below meth c ls X hR hS hl => bX6_isAbsent_0 (S := S) (x0 := x0) X _ _ _ hR hS hl hf)
abbrev rmX6_week : Room := { frames := 6, cells := 0, slots := 0, locals := 134 }
theorem kdX6_week : yX6_week.cls = RX6 ∧ yX6_week.cls ≠ "java/lang/invoke/MethodHandle" ∧ yX6_week.cls ≠ "java/lang/invoke/VarHandle" ∧ (parseMethodDescriptor yX6_week.desc).map (fun d => d.parameters.length) = some 1 := by decide +kernel
theorem wX6_week_16 : Cond.fieldLink RX6 16 "TandemExchangeModel" "now" "[I" ∈ wsX6_week := by decide +kernel
theorem iX6_week_6 : ∀ w ∈ wsX60, w ∈ wsX6_week := by decide +kernel
set_option maxRecDepth 100000 in
set_option maxHeartbeats 4000000 in
theorem bX6_week_13 {p : Program} {l : Launch} {e : Env} {s : State} {m : MethodId} {args : Array Value} {below : List Frame} {meth : Method} {c : Code} {D : va_G} {cy : Nat → ClassId} {ad : Nat → Nat} {ba : Nat} {O : Int64} {S : teS}  {x1 : Int32} {res : (Int32 × teS)} (X : teC wsX6_week RX6 cX6_week 2 (some .int) D cy ba p s m args meth c) : ∀ (S1 : teS) (y0 : Int32) (H : Heap) (locs : List Loc) (ls : Array Slot), teR D cy ad ba O S1 H → va_S (teA ba) s.heap H locs → lv_has ls 2 [(0, .ref (ad 369)), (1, .int x1)] → fX6_week_13 x1 S1 y0 = some res → W p l e (headSpec wsX6_week rmX6_week).room s m args below meth c H locs 0 0 (MQ below (va_Qi (fun a (u : teS) => a = res.1 ∧ u = res.2) (fun u t => teR D cy ad ba O u t.heap) (teA ba)) args s 0 0 (teA ba)) (F0 m 13 ls [.int y0, .ref (ad 369)]) := by
  have hx := X.1
  have hb := X.2.1
  have hown := X.2.2.2.2.1
  intro S1 y0 H locs ls hR hS hl hf
  unfold fX6_week_13 at hf
  obtain ⟨r_4, S2, hq_5, hf⟩ := bd2_some hf
  refine kVi (id := 369) (As := [.int y0]) (rest := []) X hR hS (zcX6_refused l D cy ad ba O S1 y0 _ _ hq_5) (cwV 1 X.2.2.2.2.2.1 gX6_week_X6_refused rfl rfl rfl kdX6_refused ⟨(Nat.le_of_ble_eq_true rfl), (Nat.le_of_ble_eq_true rfl)⟩) (by decide) rfl rfl rfl rfl hl.1 (Nat.le_of_ble_eq_true rfl) ⟨(Nat.le_of_ble_eq_true rfl), (Nat.le_of_ble_eq_true rfl)⟩ dX6_week_13 (fun H locs hR hS => ?_)
  refine lv_if_eq (tgt := 21) hx hb dX6_week_16 (by decide) (fun c_6 => ?_) (fun c_6 => ?_)
  · replace hf := ite_t c_6 hf
    refine lv_aload_n hx hb dX6_week_21 rfl (lv_at hl 0 rfl) ?_
    obtain ⟨S3, hq_8, hf⟩ := bd1_some hf
    refine kVv (id := 369) (As := []) (rest := []) X hR hS (zcX6_note l D cy ad ba O S2 _ hq_8) (cwV 0 X.2.2.2.2.2.1 gX6_week_X6_note rfl rfl rfl kdX6_note ⟨(Nat.le_of_ble_eq_true rfl), (Nat.le_of_ble_eq_true rfl)⟩) (by decide) rfl rfl rfl rfl hl.1 (Nat.le_of_ble_eq_true rfl) ⟨(Nat.le_of_ble_eq_true rfl), (Nat.le_of_ble_eq_true rfl)⟩ dX6_week_22 (fun H locs hR hS => ?_)
    refine lv_aload_n hx hb dX6_week_25 rfl (lv_at hl 0 rfl) ?_
    refine rg_6_5 X hR iX6_week_6 wX6_week_16 dX6_week_26 ?_
    refine lv_iload_n hx hb dX6_week_29 rfl (lv_at hl 1 rfl) ?_
    obtain ⟨S4, hq_10, hf⟩ := bd1_some hf
    refine kSv (As := [.ref (ad 372), .int x1]) (rest := []) X hR hS (zcX6_weekOn l D cy ad ba O S3 372 x1 rfl _ hq_10) (va_cwS 2 X.2.2.2.2.2.1 gX6_week_X6_weekOn rfl rfl rfl kdX6_weekOn.2 ⟨(Nat.le_of_ble_eq_true rfl), (Nat.le_of_ble_eq_true rfl)⟩)  rfl rfl hl.1 (Nat.le_of_ble_eq_true rfl) ⟨(Nat.le_of_ble_eq_true rfl), (Nat.le_of_ble_eq_true rfl)⟩ dX6_week_30 (fun H locs hR hS => ?_)
    refine lv_aload_n hx hb dX6_week_33 rfl (lv_at hl 0 rfl) ?_
    refine rg_6_5 X hR iX6_week_6 wX6_week_16 dX6_week_34 ?_
    refine lv_iconst (v := (0 : Int32)) hx hb dX6_week_37 (by decide) ?_
    obtain ⟨r_11, hq_12, hf⟩ := bd1_some hf
    refine kSi (As := [.ref (ad 372), .int (0 : Int32)]) (rest := []) X hR hS (zcX6_over l D cy ad ba O S4 372 (0 : Int32) rfl _ hq_12) (va_cwS 2 X.2.2.2.2.2.1 gX6_week_X6_over rfl rfl rfl kdX6_over.2 ⟨(Nat.le_of_ble_eq_true rfl), (Nat.le_of_ble_eq_true rfl)⟩)  rfl rfl hl.1 (Nat.le_of_ble_eq_true rfl) ⟨(Nat.le_of_ble_eq_true rfl), (Nat.le_of_ble_eq_true rfl)⟩ dX6_week_38 (fun H locs hR hS => ?_)
    exact eI X hR hS (congrArg Prod.fst (Option.some.inj hf)) (congrArg Prod.snd (Option.some.inj hf)) dX6_week_41
  · replace hf := ite_f c_6 hf
    refine lv_iconst (v := (0 : Int32)) hx hb dX6_week_19 (by decide) ?_
    exact eI X hR hS (congrArg Prod.fst (Option.some.inj hf)) (congrArg Prod.snd (Option.some.inj hf)) dX6_week_20
set_option maxRecDepth 100000 in
set_option maxHeartbeats 4000000 in
theorem bX6_week_0 {p : Program} {l : Launch} {e : Env} {s : State} {m : MethodId} {args : Array Value} {below : List Frame} {meth : Method} {c : Code} {D : va_G} {cy : Nat → ClassId} {ad : Nat → Nat} {ba : Nat} {O : Int64} {S : teS}  {x1 : Int32} {res : (Int32 × teS)} (X : teC wsX6_week RX6 cX6_week 2 (some .int) D cy ba p s m args meth c) (H : Heap) (locs : List Loc) (ls : Array Slot) (hR : teR D cy ad ba O S H) (hS : va_S (teA ba) s.heap H locs) (hl : lv_has ls 2 [(0, .ref (ad 369)), (1, .int x1)]) (hf : fX6_week x1 S = some res) : W p l e (headSpec wsX6_week rmX6_week).room s m args below meth c H locs 0 0 (MQ below (va_Qi (fun a (u : teS) => a = res.1 ∧ u = res.2) (fun u t => teR D cy ad ba O u t.heap) (teA ba)) args s 0 0 (teA ba)) (F0 m 0 ls []) := by
  have hx := X.1
  have hb := X.2.1
  have hown := X.2.2.2.2.1
  unfold fX6_week at hf
  refine lv_aload_n hx hb dX6_week_0 rfl (lv_at hl 0 rfl) ?_
  refine lv_iload_n hx hb dX6_week_1 rfl (lv_at hl 1 rfl) ?_
  obtain ⟨r_1, hq_2, hf⟩ := bd1_some hf
  refine kSi (As := [.int x1]) (rest := [.ref (ad 369)]) X hR hS (zcX6_isAbsent l D cy ad ba O S x1 _ hq_2) (va_cwS 1 X.2.2.2.2.2.1 gX6_week_X6_isAbsent rfl rfl rfl kdX6_isAbsent.2 ⟨(Nat.le_of_ble_eq_true rfl), (Nat.le_of_ble_eq_true rfl)⟩)  rfl rfl hl.1 (Nat.le_of_ble_eq_true rfl) ⟨(Nat.le_of_ble_eq_true rfl), (Nat.le_of_ble_eq_true rfl)⟩ dX6_week_2 (fun H locs hR hS => ?_)
  refine lv_if_eq (tgt := 12) hx hb dX6_week_5 (by decide) (fun c_3 => ?_) (fun c_3 => ?_)
  · replace hf := ite_t c_3 hf
    refine lv_iconst (v := (1 : Int32)) hx hb dX6_week_12 (by decide) ?_
    exact bX6_week_13 (S := S) (x1 := x1) X S ((1 : Int32)) _ _ _ hR hS (lv_sub hl [0, 1] rfl) hf
  · replace hf := ite_f c_3 hf
    refine lv_iconst (v := (0 : Int32)) hx hb dX6_week_8 (by decide) ?_
    refine lv_goto (tgt := 13) hx hb dX6_week_9 (by decide) ?_
    exact bX6_week_13 (S := S) (x1 := x1) X S ((0 : Int32)) _ _ _ hR hS (lv_sub hl [0, 1] rfl) hf
theorem zcX6_week (l : Launch) (D : va_G) (cy : Nat → ClassId) (ad : Nat → Nat) (ba : Nat) (O : Int64) (S : teS) (x1 : Int32) (r : Int32) (S1 : teS) (hf : fX6_week x1 S = some (r, S1)) : cI l yX6_week wsX6_week rmX6_week D cy ad ba O S [.ref (ad 369), .int x1] r S1 :=
  te_of (by decide) rfl (Nat.le_of_ble_eq_true rfl) (fun p e s m below meth c ls X hR hS hl => bX6_week_0 (res := (r, S1)) (S := S) (x1 := x1) X _ _ _ hR hS hl hf)
abbrev rmX6_undo : Room := { frames := 1, cells := 0, slots := 0, locals := 24 }
theorem kdX6_undo : yX6_undo.cls = RX6 ∧ yX6_undo.cls ≠ "java/lang/invoke/MethodHandle" ∧ yX6_undo.cls ≠ "java/lang/invoke/VarHandle" ∧ (parseMethodDescriptor yX6_undo.desc).map (fun d => d.parameters.length) = some 0 := by decide +kernel
theorem wX6_undo_135 : Cond.fieldLink RX6 135 "TandemExchangeModel" "acts" "I" ∈ wsX6_undo := by decide +kernel
theorem iX6_undo_6 : ∀ w ∈ wsX60, w ∈ wsX6_undo := fun _ h => List.mem_cons_of_mem _ (List.mem_append_right _ h)
theorem wX6_undo_22 : Cond.fieldLink RX6 22 "TandemExchangeModel" "diary" "[I" ∈ wsX6_undo := by decide +kernel
theorem wX6_undo_16 : Cond.fieldLink RX6 16 "TandemExchangeModel" "now" "[I" ∈ wsX6_undo := by decide +kernel
set_option maxRecDepth 100000 in
set_option maxHeartbeats 4000000 in
theorem bX6_undo_13 {p : Program} {l : Launch} {e : Env} {s : State} {m : MethodId} {args : Array Value} {below : List Frame} {meth : Method} {c : Code} {D : va_G} {cy : Nat → ClassId} {ad : Nat → Nat} {ba : Nat} {O : Int64} {S : teS}  {res : (Int32 × teS)} (X : teC wsX6_undo RX6 cX6_undo 1 (some .int) D cy ba p s m args meth c) : ∀ (S1 : teS) (y0 : Int32) (H : Heap) (locs : List Loc) (ls : Array Slot), teR D cy ad ba O S1 H → va_S (teA ba) s.heap H locs → lv_has ls 1 [(0, .ref (ad 369))] → fX6_undo_13 S1 y0 = some res → W p l e (headSpec wsX6_undo rmX6_undo).room s m args below meth c H locs 0 0 (MQ below (va_Qi (fun a (u : teS) => a = res.1 ∧ u = res.2) (fun u t => teR D cy ad ba O u t.heap) (teA ba)) args s 0 0 (teA ba)) (F0 m 13 ls [.int y0, .ref (ad 369)]) := by
  have hx := X.1
  have hb := X.2.1
  have hown := X.2.2.2.2.1
  intro S1 y0 H locs ls hR hS hl hf
  unfold fX6_undo_13 at hf
  obtain ⟨r_2, S2, hq_3, hf⟩ := bd2_some hf
  refine kVi (id := 369) (As := [.int y0]) (rest := []) X hR hS (zcX6_refused l D cy ad ba O S1 y0 _ _ hq_3) (cwV 1 X.2.2.2.2.2.1 gX6_undo_X6_refused rfl rfl rfl kdX6_refused ⟨(Nat.le_of_ble_eq_true rfl), (Nat.le_of_ble_eq_true rfl)⟩) (by decide) rfl rfl rfl rfl hl.1 (Nat.le_of_ble_eq_true rfl) ⟨(Nat.le_of_ble_eq_true rfl), (Nat.le_of_ble_eq_true rfl)⟩ dX6_undo_13 (fun H locs hR hS => ?_)
  refine lv_if_eq (tgt := 21) hx hb dX6_undo_16 (by decide) (fun c_4 => ?_) (fun c_4 => ?_)
  · replace hf := ite_t c_4 hf
    refine lv_aload_n hx hb dX6_undo_21 rfl (lv_at hl 0 rfl) ?_
    refine lv_dup hx hb dX6_undo_22 rfl ?_
    refine rg_6_8 X hR iX6_undo_6 wX6_undo_135 dX6_undo_23 ?_
    refine lv_iconst (v := (1 : Int32)) hx hb dX6_undo_26 (by decide) ?_
    refine lv_isub hx hb dX6_undo_27 ?_
    refine rp_6_8 X hR hS iX6_undo_6 wX6_undo_135 dX6_undo_28 (fun H locs hR hS => ?_)
    generalize teu S2 369 3 ((S2 369 3) - (1 : Int32)) = S3 at hf hR
    replace hf := lt1_e hf
    refine lv_aload_n hx hb dX6_undo_31 rfl (lv_at hl 0 rfl) ?_
    refine rg_6_7 X hR iX6_undo_6 wX6_undo_22 dX6_undo_32 ?_
    refine lv_bipush (v := (92 : Int32)) hx hb dX6_undo_35 (by decide) ?_
    refine lv_aload_n hx hb dX6_undo_37 rfl (lv_at hl 0 rfl) ?_
    refine rg_6_8 X hR iX6_undo_6 wX6_undo_135 dX6_undo_38 ?_
    refine lv_imul hx hb dX6_undo_41 ?_
    refine lv_aload_n hx hb dX6_undo_42 rfl (lv_at hl 0 rfl) ?_
    refine rg_6_5 X hR iX6_undo_6 wX6_undo_16 dX6_undo_43 ?_
    refine lv_iconst (v := (0 : Int32)) hx hb dX6_undo_46 (by decide) ?_
    obtain ⟨S4, hq_6, hf⟩ := bd1_some hf
    refine kSv (As := [.ref (ad 374), .int ((92 : Int32) * (S3 369 3)), .ref (ad 372), .int (0 : Int32)]) (rest := []) X hR hS (zcX6_copyPage l D cy ad ba O S3 374 ((92 : Int32) * (S3 369 3)) 372 (0 : Int32) rfl rfl _ hq_6) (va_cwS 4 X.2.2.2.2.2.1 gX6_undo_X6_copyPage rfl rfl rfl kdX6_copyPage.2 ⟨(Nat.le_of_ble_eq_true rfl), (Nat.le_of_ble_eq_true rfl)⟩)  rfl rfl hl.1 (Nat.le_of_ble_eq_true rfl) ⟨(Nat.le_of_ble_eq_true rfl), (Nat.le_of_ble_eq_true rfl)⟩ dX6_undo_47 (fun H locs hR hS => ?_)
    refine lv_aload_n hx hb dX6_undo_50 rfl (lv_at hl 0 rfl) ?_
    refine rg_6_8 X hR iX6_undo_6 wX6_undo_135 dX6_undo_51 ?_
    exact eI X hR hS (congrArg Prod.fst (Option.some.inj hf)) (congrArg Prod.snd (Option.some.inj hf)) dX6_undo_54
  · replace hf := ite_f c_4 hf
    refine lv_iconst (v := (0 : Int32)) hx hb dX6_undo_19 (by decide) ?_
    exact eI X hR hS (congrArg Prod.fst (Option.some.inj hf)) (congrArg Prod.snd (Option.some.inj hf)) dX6_undo_20
set_option maxRecDepth 100000 in
set_option maxHeartbeats 4000000 in
theorem bX6_undo_0 {p : Program} {l : Launch} {e : Env} {s : State} {m : MethodId} {args : Array Value} {below : List Frame} {meth : Method} {c : Code} {D : va_G} {cy : Nat → ClassId} {ad : Nat → Nat} {ba : Nat} {O : Int64} {S : teS}  {res : (Int32 × teS)} (X : teC wsX6_undo RX6 cX6_undo 1 (some .int) D cy ba p s m args meth c) (H : Heap) (locs : List Loc) (ls : Array Slot) (hR : teR D cy ad ba O S H) (hS : va_S (teA ba) s.heap H locs) (hl : lv_has ls 1 [(0, .ref (ad 369))]) (hf : fX6_undo S = some res) : W p l e (headSpec wsX6_undo rmX6_undo).room s m args below meth c H locs 0 0 (MQ below (va_Qi (fun a (u : teS) => a = res.1 ∧ u = res.2) (fun u t => teR D cy ad ba O u t.heap) (teA ba)) args s 0 0 (teA ba)) (F0 m 0 ls []) := by
  have hx := X.1
  have hb := X.2.1
  have hown := X.2.2.2.2.1
  unfold fX6_undo at hf
  refine lv_aload_n hx hb dX6_undo_0 rfl (lv_at hl 0 rfl) ?_
  refine lv_aload_n hx hb dX6_undo_1 rfl (lv_at hl 0 rfl) ?_
  refine rg_6_8 X hR iX6_undo_6 wX6_undo_135 dX6_undo_2 ?_
  refine lv_if_ne (tgt := 12) hx hb dX6_undo_5 (by decide) (fun c_1 => ?_) (fun c_1 => ?_)
  · replace hf := ite_f c_1 hf
    refine lv_iconst (v := (0 : Int32)) hx hb dX6_undo_12 (by decide) ?_
    exact bX6_undo_13 (S := S)  X S ((0 : Int32)) _ _ _ hR hS (lv_sub hl [0] rfl) hf
  · replace hf := ite_t c_1 hf
    refine lv_iconst (v := (1 : Int32)) hx hb dX6_undo_8 (by decide) ?_
    refine lv_goto (tgt := 13) hx hb dX6_undo_9 (by decide) ?_
    exact bX6_undo_13 (S := S)  X S ((1 : Int32)) _ _ _ hR hS (lv_sub hl [0] rfl) hf
theorem zcX6_undo (l : Launch) (D : va_G) (cy : Nat → ClassId) (ad : Nat → Nat) (ba : Nat) (O : Int64) (S : teS) (r : Int32) (S1 : teS) (hf : fX6_undo S = some (r, S1)) : cI l yX6_undo wsX6_undo rmX6_undo D cy ad ba O S [.ref (ad 369)] r S1 :=
  te_of (by decide) rfl (Nat.le_of_ble_eq_true rfl) (fun p e s m below meth c ls X hR hS hl => bX6_undo_0 (res := (r, S1)) (S := S)  X _ _ _ hR hS hl hf)
abbrev rmX6_blocking : Room := { frames := 6, cells := 0, slots := 0, locals := 133 }
theorem kdX6_blocking : yX6_blocking.cls = RX6 ∧ yX6_blocking.cls ≠ "java/lang/invoke/MethodHandle" ∧ yX6_blocking.cls ≠ "java/lang/invoke/VarHandle" ∧ (parseMethodDescriptor yX6_blocking.desc).map (fun d => d.parameters.length) = some 2 := by decide +kernel
theorem wX6_blocking_16 : Cond.fieldLink RX6 16 "TandemExchangeModel" "now" "[I" ∈ wsX6_blocking := by decide +kernel
theorem iX6_blocking_6 : ∀ w ∈ wsX60, w ∈ wsX6_blocking := by decide +kernel
set_option maxRecDepth 100000 in
set_option maxHeartbeats 4000000 in
theorem bX6_blocking_10 {p : Program} {l : Launch} {e : Env} {s : State} {m : MethodId} {args : Array Value} {below : List Frame} {meth : Method} {c : Code} {D : va_G} {cy : Nat → ClassId} {ad : Nat → Nat} {ba : Nat} {O : Int64} {S : teS}  {x1 : Int32} {x2 : Int32} {res : (Int32 × teS)} (X : teC wsX6_blocking RX6 cX6_blocking 4 (some .int) D cy ba p s m args meth c) : ∀ (S1 : teS) (y0 : Int32) (H : Heap) (locs : List Loc) (ls : Array Slot), teR D cy ad ba O S1 H → va_S (teA ba) s.heap H locs → lv_has ls 4 [(0, .ref (ad 369)), (1, .int x1), (2, .int x2)] → fX6_blocking_10 x1 x2 S1 y0 = some res → W p l e (headSpec wsX6_blocking rmX6_blocking).room s m args below meth c H locs 0 0 (MQ below (va_Qi (fun a (u : teS) => a = res.1 ∧ u = res.2) (fun u t => teR D cy ad ba O u t.heap) (teA ba)) args s 0 0 (teA ba)) (F0 m 10 ls [.int y0, .ref (ad 369)]) := by
  have hx := X.1
  have hb := X.2.1
  have hown := X.2.2.2.2.1
  intro S1 y0 H locs ls hR hS hl hf
  unfold fX6_blocking_10 at hf
  obtain ⟨r_2, S2, hq_3, hf⟩ := bd2_some hf
  refine kVi (id := 369) (As := [.int y0]) (rest := []) X hR hS (zcX6_refused l D cy ad ba O S1 y0 _ _ hq_3) (cwV 1 X.2.2.2.2.2.1 gX6_blocking_X6_refused rfl rfl rfl kdX6_refused ⟨(Nat.le_of_ble_eq_true rfl), (Nat.le_of_ble_eq_true rfl)⟩) (by decide) rfl rfl rfl rfl hl.1 (Nat.le_of_ble_eq_true rfl) ⟨(Nat.le_of_ble_eq_true rfl), (Nat.le_of_ble_eq_true rfl)⟩ dX6_blocking_10 (fun H locs hR hS => ?_)
  refine lv_if_eq (tgt := 18) hx hb dX6_blocking_13 (by decide) (fun c_4 => ?_) (fun c_4 => ?_)
  · replace hf := ite_t c_4 hf
    refine lv_aload_n hx hb dX6_blocking_18 rfl (lv_at hl 0 rfl) ?_
    refine rg_6_5 X hR iX6_blocking_6 wX6_blocking_16 dX6_blocking_19 ?_
    refine lv_iload_n hx hb dX6_blocking_22 rfl (lv_at hl 1 rfl) ?_
    obtain ⟨r_5, hq_6, hf⟩ := bd1_some hf
    refine kSi (As := [.ref (ad 372), .int x1]) (rest := []) X hR hS (zcX6_blockAt l D cy ad ba O S2 372 x1 rfl _ hq_6) (va_cwS 2 X.2.2.2.2.2.1 gX6_blocking_X6_blockAt rfl rfl rfl kdX6_blockAt.2 ⟨(Nat.le_of_ble_eq_true rfl), (Nat.le_of_ble_eq_true rfl)⟩)  rfl rfl hl.1 (Nat.le_of_ble_eq_true rfl) ⟨(Nat.le_of_ble_eq_true rfl), (Nat.le_of_ble_eq_true rfl)⟩ dX6_blocking_23 (fun H locs hR hS => ?_)
    refine lv_istore_n (lv' := [(3, .int r_5), (0, .ref (ad 369)), (1, .int x1), (2, .int x2)]) hx hb dX6_blocking_26 rfl hl (by decide) rfl (fun ls hl => ?_)
    refine lv_iload_n hx hb dX6_blocking_27 rfl (lv_at hl 0 rfl) ?_
    refine lv_sipush (v := (-9999 : Int32)) hx hb dX6_blocking_28 (by decide) ?_
    refine lv_icmp_ne (tgt := 40) hx hb dX6_blocking_31 (by decide) (fun c_7 => ?_) (fun c_7 => ?_)
    · replace hf := ite_f c_7 hf
      refine lv_iload_n hx hb dX6_blocking_40 rfl (lv_at hl 3 rfl) ?_
      refine lv_if_eq (tgt := 51) hx hb dX6_blocking_41 (by decide) (fun c_8 => ?_) (fun c_8 => ?_)
      · replace hf := ite_t c_8 hf
        refine lv_iload_n hx hb dX6_blocking_51 rfl (lv_at hl 0 rfl) ?_
        refine lv_bipush (v := (10 : Int32)) hx hb dX6_blocking_52 (by decide) ?_
        refine lv_idiv hx hb dX6_blocking_54 (by decide) ?_
        exact eI X hR hS (congrArg Prod.fst (Option.some.inj hf)) (congrArg Prod.snd (Option.some.inj hf)) dX6_blocking_55
      · replace hf := ite_f c_8 hf
        refine lv_iload_n hx hb dX6_blocking_44 rfl (lv_at hl 0 rfl) ?_
        refine lv_bipush (v := (10 : Int32)) hx hb dX6_blocking_45 (by decide) ?_
        refine lv_irem hx hb dX6_blocking_47 (by decide) ?_
        refine lv_goto (tgt := 55) hx hb dX6_blocking_48 (by decide) ?_
        exact eI X hR hS (congrArg Prod.fst (Option.some.inj hf)) (congrArg Prod.snd (Option.some.inj hf)) dX6_blocking_55
    · replace hf := ite_t c_7 hf
      refine lv_sipush (v := (-9999 : Int32)) hx hb dX6_blocking_34 (by decide) ?_
      refine lv_goto (tgt := 55) hx hb dX6_blocking_37 (by decide) ?_
      exact eI X hR hS (congrArg Prod.fst (Option.some.inj hf)) (congrArg Prod.snd (Option.some.inj hf)) dX6_blocking_55
  · replace hf := ite_f c_4 hf
    refine lv_iconst (v := (0 : Int32)) hx hb dX6_blocking_16 (by decide) ?_
    exact eI X hR hS (congrArg Prod.fst (Option.some.inj hf)) (congrArg Prod.snd (Option.some.inj hf)) dX6_blocking_17
set_option maxRecDepth 100000 in
set_option maxHeartbeats 4000000 in
theorem bX6_blocking_0 {p : Program} {l : Launch} {e : Env} {s : State} {m : MethodId} {args : Array Value} {below : List Frame} {meth : Method} {c : Code} {D : va_G} {cy : Nat → ClassId} {ad : Nat → Nat} {ba : Nat} {O : Int64} {S : teS}  {x1 : Int32} {x2 : Int32} {res : (Int32 × teS)} (X : teC wsX6_blocking RX6 cX6_blocking 4 (some .int) D cy ba p s m args meth c) (H : Heap) (locs : List Loc) (ls : Array Slot) (hR : teR D cy ad ba O S H) (hS : va_S (teA ba) s.heap H locs) (hl : lv_has ls 4 [(0, .ref (ad 369)), (1, .int x1), (2, .int x2)]) (hf : fX6_blocking x1 x2 S = some res) : W p l e (headSpec wsX6_blocking rmX6_blocking).room s m args below meth c H locs 0 0 (MQ below (va_Qi (fun a (u : teS) => a = res.1 ∧ u = res.2) (fun u t => teR D cy ad ba O u t.heap) (teA ba)) args s 0 0 (teA ba)) (F0 m 0 ls []) := by
  have hx := X.1
  have hb := X.2.1
  have hown := X.2.2.2.2.1
  unfold fX6_blocking at hf
  refine lv_aload_n hx hb dX6_blocking_0 rfl (lv_at hl 0 rfl) ?_
  refine lv_iload_n hx hb dX6_blocking_1 rfl (lv_at hl 1 rfl) ?_
  refine lv_if_lt (tgt := 9) hx hb dX6_blocking_2 (by decide) (fun c_1 => ?_) (fun c_1 => ?_)
  · replace hf := ite_t c_1 hf
    refine lv_iconst (v := (1 : Int32)) hx hb dX6_blocking_9 (by decide) ?_
    exact bX6_blocking_10 (S := S) (x1 := x1) (x2 := x2) X S ((1 : Int32)) _ _ _ hR hS (lv_sub hl [0, 1, 2] rfl) hf
  · replace hf := ite_f c_1 hf
    refine lv_iconst (v := (0 : Int32)) hx hb dX6_blocking_5 (by decide) ?_
    refine lv_goto (tgt := 10) hx hb dX6_blocking_6 (by decide) ?_
    exact bX6_blocking_10 (S := S) (x1 := x1) (x2 := x2) X S ((0 : Int32)) _ _ _ hR hS (lv_sub hl [0, 1, 2] rfl) hf
theorem zcX6_blocking (l : Launch) (D : va_G) (cy : Nat → ClassId) (ad : Nat → Nat) (ba : Nat) (O : Int64) (S : teS) (x1 : Int32) (x2 : Int32) (r : Int32) (S1 : teS) (hf : fX6_blocking x1 x2 S = some (r, S1)) : cI l yX6_blocking wsX6_blocking rmX6_blocking D cy ad ba O S [.ref (ad 369), .int x1, .int x2] r S1 :=
  te_of (by decide) rfl (Nat.le_of_ble_eq_true rfl) (fun p e s m below meth c ls X hR hS hl => bX6_blocking_0 (res := (r, S1)) (S := S) (x1 := x1) (x2 := x2) X _ _ _ hR hS hl hf)
abbrev rmX6_bestPartner : Room := { frames := 3, cells := 0, slots := 0, locals := 65 }
theorem kdX6_bestPartner : yX6_bestPartner.cls = RX6 ∧ yX6_bestPartner.cls ≠ "java/lang/invoke/MethodHandle" ∧ yX6_bestPartner.cls ≠ "java/lang/invoke/VarHandle" ∧ (parseMethodDescriptor yX6_bestPartner.desc).map (fun d => d.parameters.length) = some 2 := by decide +kernel
theorem wX6_bestPartner_16 : Cond.fieldLink RX6 16 "TandemExchangeModel" "now" "[I" ∈ wsX6_bestPartner := by decide +kernel
theorem iX6_bestPartner_6 : ∀ w ∈ wsX60, w ∈ wsX6_bestPartner := by decide +kernel
set_option maxRecDepth 100000 in
set_option maxHeartbeats 4000000 in
theorem bX6_bestPartner_77 {p : Program} {l : Launch} {e : Env} {s : State} {m : MethodId} {args : Array Value} {below : List Frame} {meth : Method} {c : Code} {D : va_G} {cy : Nat → ClassId} {ad : Nat → Nat} {ba : Nat} {O : Int64} {S : teS}  {x1 : Int32} {x2 : Int32} {res : (Int32 × teS)} (X : teC wsX6_bestPartner RX6 cX6_bestPartner 6 (some .int) D cy ba p s m args meth c) {q32 : teS → Int32 → Int32 → Option (Int32 × teS)} (hq32 : ∀ (S1 : teS) (v3 : Int32) (v4 : Int32) (H : Heap) (locs : List Loc) (ls : Array Slot), teR D cy ad ba O S1 H → va_S (teA ba) s.heap H locs → lv_has ls 6 [(0, .ref (ad 369)), (1, .int x1), (2, .int x2), (3, .int v3), (4, .int v4)] → q32 S1 v3 v4 = some res → W p l e (headSpec wsX6_bestPartner rmX6_bestPartner).room s m args below meth c H locs 0 0 (MQ below (va_Qi (fun a (u : teS) => a = res.1 ∧ u = res.2) (fun u t => teR D cy ad ba O u t.heap) (teA ba)) args s 0 0 (teA ba)) (F0 m 32 ls [])) : ∀ (S1 : teS) (v3 : Int32) (v4 : Int32) (y0 : Int32) (H : Heap) (locs : List Loc) (ls : Array Slot), teR D cy ad ba O S1 H → va_S (teA ba) s.heap H locs → lv_has ls 6 [(0, .ref (ad 369)), (1, .int x1), (2, .int x2), (3, .int v3), (4, .int v4)] → fX6_bestPartner_77 x1 x2 q32 S1 v3 v4 y0 = some res → W p l e (headSpec wsX6_bestPartner rmX6_bestPartner).room s m args below meth c H locs 0 0 (MQ below (va_Qi (fun a (u : teS) => a = res.1 ∧ u = res.2) (fun u t => teR D cy ad ba O u t.heap) (teA ba)) args s 0 0 (teA ba)) (F0 m 77 ls [.int y0]) := by
  have hx := X.1
  have hb := X.2.1
  have hown := X.2.2.2.2.1
  intro S1 v3 v4 y0 H locs ls hR hS hl hf
  unfold fX6_bestPartner_77 at hf
  refine lv_istore (lv' := [(5, .int y0), (0, .ref (ad 369)), (1, .int x1), (2, .int x2), (3, .int v3), (4, .int v4)]) hx hb dX6_bestPartner_77 hl (by decide) rfl (fun ls hl => ?_)
  refine lv_iload hx hb dX6_bestPartner_79 (lv_at hl 0 rfl) ?_
  refine lv_if_eq (tgt := 118) hx hb dX6_bestPartner_81 (by decide) (fun c_19 => ?_) (fun c_19 => ?_)
  · replace hf := ite_t c_19 hf
    refine lv_iload_n hx hb dX6_bestPartner_118 rfl (lv_at hl 4 rfl) ?_
    refine lv_istore_n (lv' := [(3, .int v3), (5, .int y0), (0, .ref (ad 369)), (1, .int x1), (2, .int x2), (4, .int v4)]) hx hb dX6_bestPartner_119 rfl hl (by decide) rfl (fun ls hl => ?_)
    refine lv_iinc (v := (v4 + (1 : Int32))) (lv' := [(4, .int (v4 + (1 : Int32))), (3, .int v3), (5, .int y0), (0, .ref (ad 369)), (1, .int x1), (2, .int x2)]) hx hb dX6_bestPartner_120 hl (k := 5) rfl rfl (by decide) rfl (fun ls hl => ?_)
    refine lv_goto (tgt := 32) hx hb dX6_bestPartner_123 (by decide) ?_
    exact hq32 S1 (v3) ((v4 + (1 : Int32))) _ _ _ hR hS (lv_sub hl [3, 4, 5, 1, 0] rfl) hf
  · replace hf := ite_f c_19 hf
    refine lv_iload_n hx hb dX6_bestPartner_84 rfl (lv_at hl 4 rfl) ?_
    refine lv_sipush (v := (-9999 : Int32)) hx hb dX6_bestPartner_85 (by decide) ?_
    refine lv_icmp_eq (tgt := 113) hx hb dX6_bestPartner_88 (by decide) (fun c_20 => ?_) (fun c_20 => ?_)
    · replace hf := ite_t c_20 hf
      refine lv_iload hx hb dX6_bestPartner_113 (lv_at hl 5 rfl) ?_
      refine lv_goto (tgt := 119) hx hb dX6_bestPartner_115 (by decide) ?_
      refine lv_istore_n (lv' := [(3, .int v4), (5, .int y0), (0, .ref (ad 369)), (1, .int x1), (2, .int x2), (4, .int v4)]) hx hb dX6_bestPartner_119 rfl hl (by decide) rfl (fun ls hl => ?_)
      refine lv_iinc (v := (v4 + (1 : Int32))) (lv' := [(4, .int (v4 + (1 : Int32))), (3, .int v4), (5, .int y0), (0, .ref (ad 369)), (1, .int x1), (2, .int x2)]) hx hb dX6_bestPartner_120 hl (k := 5) rfl rfl (by decide) rfl (fun ls hl => ?_)
      refine lv_goto (tgt := 32) hx hb dX6_bestPartner_123 (by decide) ?_
      exact hq32 S1 (v4) ((v4 + (1 : Int32))) _ _ _ hR hS (lv_sub hl [3, 4, 5, 1, 0] rfl) hf
    · replace hf := ite_f c_20 hf
      refine lv_aload_n hx hb dX6_bestPartner_91 rfl (lv_at hl 1 rfl) ?_
      refine rg_6_5 X hR iX6_bestPartner_6 wX6_bestPartner_16 dX6_bestPartner_92 ?_
      refine lv_iload_n hx hb dX6_bestPartner_95 rfl (lv_at hl 2 rfl) ?_
      refine lv_iload hx hb dX6_bestPartner_96 (lv_at hl 5 rfl) ?_
      obtain ⟨r_21, hq_22, hf⟩ := bd1_some hf
      refine kSi (As := [.ref (ad 372), .int x1, .int v4]) (rest := []) X hR hS (zcX6_score l D cy ad ba O S1 372 x1 v4 rfl _ hq_22) (va_cwS 3 X.2.2.2.2.2.1 gX6_bestPartner_X6_score rfl rfl rfl kdX6_score.2 ⟨(Nat.le_of_ble_eq_true rfl), (Nat.le_of_ble_eq_true rfl)⟩)  rfl rfl hl.1 (Nat.le_of_ble_eq_true rfl) ⟨(Nat.le_of_ble_eq_true rfl), (Nat.le_of_ble_eq_true rfl)⟩ dX6_bestPartner_98 (fun H locs hR hS => ?_)
      refine lv_aload_n hx hb dX6_bestPartner_101 rfl (lv_at hl 1 rfl) ?_
      refine rg_6_5 X hR iX6_bestPartner_6 wX6_bestPartner_16 dX6_bestPartner_102 ?_
      refine lv_iload_n hx hb dX6_bestPartner_105 rfl (lv_at hl 2 rfl) ?_
      refine lv_iload_n hx hb dX6_bestPartner_106 rfl (lv_at hl 4 rfl) ?_
      obtain ⟨r_23, hq_24, hf⟩ := bd1_some hf
      refine kSi (As := [.ref (ad 372), .int x1, .int v3]) (rest := [.int r_21]) X hR hS (zcX6_score l D cy ad ba O S1 372 x1 v3 rfl _ hq_24) (va_cwS 3 X.2.2.2.2.2.1 gX6_bestPartner_X6_score rfl rfl rfl kdX6_score.2 ⟨(Nat.le_of_ble_eq_true rfl), (Nat.le_of_ble_eq_true rfl)⟩)  rfl rfl hl.1 (Nat.le_of_ble_eq_true rfl) ⟨(Nat.le_of_ble_eq_true rfl), (Nat.le_of_ble_eq_true rfl)⟩ dX6_bestPartner_107 (fun H locs hR hS => ?_)
      refine lv_icmp_le (tgt := 118) hx hb dX6_bestPartner_110 (by decide) (fun c_25 => ?_) (fun c_25 => ?_)
      · replace hf := ite_t c_25 hf
        refine lv_iload_n hx hb dX6_bestPartner_118 rfl (lv_at hl 4 rfl) ?_
        refine lv_istore_n (lv' := [(3, .int v3), (5, .int y0), (0, .ref (ad 369)), (1, .int x1), (2, .int x2), (4, .int v4)]) hx hb dX6_bestPartner_119 rfl hl (by decide) rfl (fun ls hl => ?_)
        refine lv_iinc (v := (v4 + (1 : Int32))) (lv' := [(4, .int (v4 + (1 : Int32))), (3, .int v3), (5, .int y0), (0, .ref (ad 369)), (1, .int x1), (2, .int x2)]) hx hb dX6_bestPartner_120 hl (k := 5) rfl rfl (by decide) rfl (fun ls hl => ?_)
        refine lv_goto (tgt := 32) hx hb dX6_bestPartner_123 (by decide) ?_
        exact hq32 S1 (v3) ((v4 + (1 : Int32))) _ _ _ hR hS (lv_sub hl [3, 4, 5, 1, 0] rfl) hf
      · replace hf := ite_f c_25 hf
        refine lv_iload hx hb dX6_bestPartner_113 (lv_at hl 5 rfl) ?_
        refine lv_goto (tgt := 119) hx hb dX6_bestPartner_115 (by decide) ?_
        refine lv_istore_n (lv' := [(3, .int v4), (5, .int y0), (0, .ref (ad 369)), (1, .int x1), (2, .int x2), (4, .int v4)]) hx hb dX6_bestPartner_119 rfl hl (by decide) rfl (fun ls hl => ?_)
        refine lv_iinc (v := (v4 + (1 : Int32))) (lv' := [(4, .int (v4 + (1 : Int32))), (3, .int v4), (5, .int y0), (0, .ref (ad 369)), (1, .int x1), (2, .int x2)]) hx hb dX6_bestPartner_120 hl (k := 5) rfl rfl (by decide) rfl (fun ls hl => ?_)
        refine lv_goto (tgt := 32) hx hb dX6_bestPartner_123 (by decide) ?_
        exact hq32 S1 (v4) ((v4 + (1 : Int32))) _ _ _ hR hS (lv_sub hl [3, 4, 5, 1, 0] rfl) hf
set_option maxRecDepth 100000 in
set_option maxHeartbeats 4000000 in
theorem bX6_bestPartner_32 {p : Program} {l : Launch} {e : Env} {s : State} {m : MethodId} {args : Array Value} {below : List Frame} {meth : Method} {c : Code} {D : va_G} {cy : Nat → ClassId} {ad : Nat → Nat} {ba : Nat} {O : Int64} {S : teS}  {x1 : Int32} {x2 : Int32} {res : (Int32 × teS)} (X : teC wsX6_bestPartner RX6 cX6_bestPartner 6 (some .int) D cy ba p s m args meth c) : ∀ (n : Nat), ∀ (S1 : teS) (v3 : Int32) (v4 : Int32) (H : Heap) (locs : List Loc) (ls : Array Slot), teR D cy ad ba O S1 H → va_S (teA ba) s.heap H locs → lv_has ls 6 [(0, .ref (ad 369)), (1, .int x1), (2, .int x2), (3, .int v3), (4, .int v4)] → fX6_bestPartner_32 x1 x2 n S1 v3 v4 = some res → W p l e (headSpec wsX6_bestPartner rmX6_bestPartner).room s m args below meth c H locs 0 0 (MQ below (va_Qi (fun a (u : teS) => a = res.1 ∧ u = res.2) (fun u t => teR D cy ad ba O u t.heap) (teA ba)) args s 0 0 (teA ba)) (F0 m 32 ls []) := by
  have hx := X.1
  have hb := X.2.1
  have hown := X.2.2.2.2.1
  intro n
  induction n with
  | zero =>
    intro S1 v3 v4 H locs ls hR hS hl hf
    exact nomatch hf
  | succ n ih =>
    intro S1 v3 v4 H locs ls hR hS hl hf
    unfold fX6_bestPartner_32 at hf
    refine lv_iload hx hb dX6_bestPartner_32 (lv_at hl 4 rfl) ?_
    refine lv_aload_n hx hb dX6_bestPartner_34 rfl (lv_at hl 0 rfl) ?_
    refine rg_6_5 X hR iX6_bestPartner_6 wX6_bestPartner_16 dX6_bestPartner_35 ?_
    refine lv_iconst (v := (0 : Int32)) hx hb dX6_bestPartner_38 (by decide) ?_
    obtain ⟨h_10, hf⟩ := chk_some hf
    refine ra_int X hR (r := 372) rfl h_10 dX6_bestPartner_39 ?_
    refine lv_icmp_ge (tgt := 126) hx hb dX6_bestPartner_40 (by decide) (fun c_11 => ?_) (fun c_11 => ?_)
    · replace hf := ite_t c_11 hf
      refine lv_iload_n hx hb dX6_bestPartner_126 rfl (lv_at hl 3 rfl) ?_
      exact eI X hR hS (congrArg Prod.fst (Option.some.inj hf)) (congrArg Prod.snd (Option.some.inj hf)) dX6_bestPartner_127
    · replace hf := ite_f c_11 hf
      refine lv_aload_n hx hb dX6_bestPartner_43 rfl (lv_at hl 0 rfl) ?_
      refine rg_6_5 X hR iX6_bestPartner_6 wX6_bestPartner_16 dX6_bestPartner_44 ?_
      refine lv_iload_n hx hb dX6_bestPartner_47 rfl (lv_at hl 1 rfl) ?_
      refine lv_iload hx hb dX6_bestPartner_48 (lv_at hl 4 rfl) ?_
      obtain ⟨r_12, hq_13, hf⟩ := bd1_some hf
      refine kSi (As := [.ref (ad 372), .int x1, .int v4]) (rest := []) X hR hS (zcX6_fit l D cy ad ba O S1 372 x1 v4 rfl _ hq_13) (va_cwS 3 X.2.2.2.2.2.1 gX6_bestPartner_X6_fit rfl rfl rfl kdX6_fit.2 ⟨(Nat.le_of_ble_eq_true rfl), (Nat.le_of_ble_eq_true rfl)⟩)  rfl rfl hl.1 (Nat.le_of_ble_eq_true rfl) ⟨(Nat.le_of_ble_eq_true rfl), (Nat.le_of_ble_eq_true rfl)⟩ dX6_bestPartner_50 (fun H locs hR hS => ?_)
      refine lv_if_eq (tgt := 76) hx hb dX6_bestPartner_53 (by decide) (fun c_14 => ?_) (fun c_14 => ?_)
      · replace hf := ite_t c_14 hf
        refine lv_iconst (v := (0 : Int32)) hx hb dX6_bestPartner_76 (by decide) ?_
        exact bX6_bestPartner_77 (S := S) (x1 := x1) (x2 := x2) X ih S1 (v3) (v4) ((0 : Int32)) _ _ _ hR hS (lv_sub hl [0, 1, 2, 3, 4] rfl) hf
      · replace hf := ite_f c_14 hf
        refine lv_iload_n hx hb dX6_bestPartner_56 rfl (lv_at hl 2 rfl) ?_
        refine lv_if_eq (tgt := 72) hx hb dX6_bestPartner_57 (by decide) (fun c_15 => ?_) (fun c_15 => ?_)
        · replace hf := ite_t c_15 hf
          refine lv_iconst (v := (1 : Int32)) hx hb dX6_bestPartner_72 (by decide) ?_
          refine lv_goto (tgt := 77) hx hb dX6_bestPartner_73 (by decide) ?_
          exact bX6_bestPartner_77 (S := S) (x1 := x1) (x2 := x2) X ih S1 (v3) (v4) ((1 : Int32)) _ _ _ hR hS (lv_sub hl [0, 1, 2, 3, 4] rfl) hf
        · replace hf := ite_f c_15 hf
          refine lv_aload_n hx hb dX6_bestPartner_60 rfl (lv_at hl 0 rfl) ?_
          refine rg_6_5 X hR iX6_bestPartner_6 wX6_bestPartner_16 dX6_bestPartner_61 ?_
          refine lv_iload hx hb dX6_bestPartner_64 (lv_at hl 4 rfl) ?_
          obtain ⟨r_16, hq_17, hf⟩ := bd1_some hf
          refine kSi (As := [.ref (ad 372), .int v4]) (rest := []) X hR hS (zcX6_isFree l D cy ad ba O S1 372 v4 rfl _ hq_17) (va_cwS 2 X.2.2.2.2.2.1 gX6_bestPartner_X6_isFree rfl rfl rfl kdX6_isFree.2 ⟨(Nat.le_of_ble_eq_true rfl), (Nat.le_of_ble_eq_true rfl)⟩)  rfl rfl hl.1 (Nat.le_of_ble_eq_true rfl) ⟨(Nat.le_of_ble_eq_true rfl), (Nat.le_of_ble_eq_true rfl)⟩ dX6_bestPartner_66 (fun H locs hR hS => ?_)
          refine lv_if_eq (tgt := 76) hx hb dX6_bestPartner_69 (by decide) (fun c_18 => ?_) (fun c_18 => ?_)
          · replace hf := ite_t c_18 hf
            refine lv_iconst (v := (0 : Int32)) hx hb dX6_bestPartner_76 (by decide) ?_
            exact bX6_bestPartner_77 (S := S) (x1 := x1) (x2 := x2) X ih S1 (v3) (v4) ((0 : Int32)) _ _ _ hR hS (lv_sub hl [0, 1, 2, 3, 4] rfl) hf
          · replace hf := ite_f c_18 hf
            refine lv_iconst (v := (1 : Int32)) hx hb dX6_bestPartner_72 (by decide) ?_
            refine lv_goto (tgt := 77) hx hb dX6_bestPartner_73 (by decide) ?_
            exact bX6_bestPartner_77 (S := S) (x1 := x1) (x2 := x2) X ih S1 (v3) (v4) ((1 : Int32)) _ _ _ hR hS (lv_sub hl [0, 1, 2, 3, 4] rfl) hf
set_option maxRecDepth 100000 in
set_option maxHeartbeats 4000000 in
theorem bX6_bestPartner_0 {p : Program} {l : Launch} {e : Env} {s : State} {m : MethodId} {args : Array Value} {below : List Frame} {meth : Method} {c : Code} {D : va_G} {cy : Nat → ClassId} {ad : Nat → Nat} {ba : Nat} {O : Int64} {S : teS}  {x1 : Int32} {x2 : Int32} {res : (Int32 × teS)} (X : teC wsX6_bestPartner RX6 cX6_bestPartner 6 (some .int) D cy ba p s m args meth c) (H : Heap) (locs : List Loc) (ls : Array Slot) (hR : teR D cy ad ba O S H) (hS : va_S (teA ba) s.heap H locs) (hl : lv_has ls 6 [(0, .ref (ad 369)), (1, .int x1), (2, .int x2)]) (hf : fX6_bestPartner x1 x2 S = some res) : W p l e (headSpec wsX6_bestPartner rmX6_bestPartner).room s m args below meth c H locs 0 0 (MQ below (va_Qi (fun a (u : teS) => a = res.1 ∧ u = res.2) (fun u t => teR D cy ad ba O u t.heap) (teA ba)) args s 0 0 (teA ba)) (F0 m 0 ls []) := by
  have hx := X.1
  have hb := X.2.1
  have hown := X.2.2.2.2.1
  unfold fX6_bestPartner at hf
  refine lv_aload_n hx hb dX6_bestPartner_0 rfl (lv_at hl 0 rfl) ?_
  refine lv_aload_n hx hb dX6_bestPartner_1 rfl (lv_at hl 0 rfl) ?_
  refine rg_6_5 X hR iX6_bestPartner_6 wX6_bestPartner_16 dX6_bestPartner_2 ?_
  refine lv_iload_n hx hb dX6_bestPartner_5 rfl (lv_at hl 1 rfl) ?_
  obtain ⟨r_1, hq_2, hf⟩ := bd1_some hf
  refine kSi (As := [.ref (ad 372), .int x1]) (rest := [.ref (ad 369)]) X hR hS (zcX6_isMember l D cy ad ba O S 372 x1 rfl _ hq_2) (va_cwS 2 X.2.2.2.2.2.1 gX6_bestPartner_X6_isMember rfl rfl rfl kdX6_isMember.2 ⟨(Nat.le_of_ble_eq_true rfl), (Nat.le_of_ble_eq_true rfl)⟩)  rfl rfl hl.1 (Nat.le_of_ble_eq_true rfl) ⟨(Nat.le_of_ble_eq_true rfl), (Nat.le_of_ble_eq_true rfl)⟩ dX6_bestPartner_6 (fun H locs hR hS => ?_)
  refine lv_if_eq (tgt := 16) hx hb dX6_bestPartner_9 (by decide) (fun c_3 => ?_) (fun c_3 => ?_)
  · replace hf := ite_t c_3 hf
    refine lv_iconst (v := (1 : Int32)) hx hb dX6_bestPartner_16 (by decide) ?_
    obtain ⟨r_4, S1, hq_5, hf⟩ := bd2_some hf
    refine kVi (id := 369) (As := [.int (1 : Int32)]) (rest := []) X hR hS (zcX6_refused l D cy ad ba O S (1 : Int32) _ _ hq_5) (cwV 1 X.2.2.2.2.2.1 gX6_bestPartner_X6_refused rfl rfl rfl kdX6_refused ⟨(Nat.le_of_ble_eq_true rfl), (Nat.le_of_ble_eq_true rfl)⟩) (by decide) rfl rfl rfl rfl hl.1 (Nat.le_of_ble_eq_true rfl) ⟨(Nat.le_of_ble_eq_true rfl), (Nat.le_of_ble_eq_true rfl)⟩ dX6_bestPartner_17 (fun H locs hR hS => ?_)
    refine lv_if_eq (tgt := 25) hx hb dX6_bestPartner_20 (by decide) (fun c_6 => ?_) (fun c_6 => ?_)
    · replace hf := ite_t c_6 hf
      refine lv_sipush (v := (-9999 : Int32)) hx hb dX6_bestPartner_25 (by decide) ?_
      refine lv_istore_n (lv' := [(3, .int (-9999 : Int32)), (0, .ref (ad 369)), (1, .int x1), (2, .int x2)]) hx hb dX6_bestPartner_28 rfl hl (by decide) rfl (fun ls hl => ?_)
      refine lv_iconst (v := (0 : Int32)) hx hb dX6_bestPartner_29 (by decide) ?_
      refine lv_istore (lv' := [(4, .int (0 : Int32)), (3, .int (-9999 : Int32)), (0, .ref (ad 369)), (1, .int x1), (2, .int x2)]) hx hb dX6_bestPartner_30 hl (by decide) rfl (fun ls hl => ?_)
      exact bX6_bestPartner_32 (S := S) (x1 := x1) (x2 := x2) X 2000 S1 ((-9999 : Int32)) ((0 : Int32)) _ _ _ hR hS (lv_sub hl [2, 3, 4, 1, 0] rfl) hf
    · replace hf := ite_f c_6 hf
      refine lv_iconst (v := (0 : Int32)) hx hb dX6_bestPartner_23 (by decide) ?_
      exact eI X hR hS (congrArg Prod.fst (Option.some.inj hf)) (congrArg Prod.snd (Option.some.inj hf)) dX6_bestPartner_24
  · replace hf := ite_f c_3 hf
    refine lv_iconst (v := (0 : Int32)) hx hb dX6_bestPartner_12 (by decide) ?_
    refine lv_goto (tgt := 17) hx hb dX6_bestPartner_13 (by decide) ?_
    obtain ⟨r_7, S2, hq_8, hf⟩ := bd2_some hf
    refine kVi (id := 369) (As := [.int (0 : Int32)]) (rest := []) X hR hS (zcX6_refused l D cy ad ba O S (0 : Int32) _ _ hq_8) (cwV 1 X.2.2.2.2.2.1 gX6_bestPartner_X6_refused rfl rfl rfl kdX6_refused ⟨(Nat.le_of_ble_eq_true rfl), (Nat.le_of_ble_eq_true rfl)⟩) (by decide) rfl rfl rfl rfl hl.1 (Nat.le_of_ble_eq_true rfl) ⟨(Nat.le_of_ble_eq_true rfl), (Nat.le_of_ble_eq_true rfl)⟩ dX6_bestPartner_17 (fun H locs hR hS => ?_)
    refine lv_if_eq (tgt := 25) hx hb dX6_bestPartner_20 (by decide) (fun c_9 => ?_) (fun c_9 => ?_)
    · replace hf := ite_t c_9 hf
      refine lv_sipush (v := (-9999 : Int32)) hx hb dX6_bestPartner_25 (by decide) ?_
      refine lv_istore_n (lv' := [(3, .int (-9999 : Int32)), (0, .ref (ad 369)), (1, .int x1), (2, .int x2)]) hx hb dX6_bestPartner_28 rfl hl (by decide) rfl (fun ls hl => ?_)
      refine lv_iconst (v := (0 : Int32)) hx hb dX6_bestPartner_29 (by decide) ?_
      refine lv_istore (lv' := [(4, .int (0 : Int32)), (3, .int (-9999 : Int32)), (0, .ref (ad 369)), (1, .int x1), (2, .int x2)]) hx hb dX6_bestPartner_30 hl (by decide) rfl (fun ls hl => ?_)
      exact bX6_bestPartner_32 (S := S) (x1 := x1) (x2 := x2) X 2000 S2 ((-9999 : Int32)) ((0 : Int32)) _ _ _ hR hS (lv_sub hl [2, 3, 4, 1, 0] rfl) hf
    · replace hf := ite_f c_9 hf
      refine lv_iconst (v := (0 : Int32)) hx hb dX6_bestPartner_23 (by decide) ?_
      exact eI X hR hS (congrArg Prod.fst (Option.some.inj hf)) (congrArg Prod.snd (Option.some.inj hf)) dX6_bestPartner_24
theorem zcX6_bestPartner (l : Launch) (D : va_G) (cy : Nat → ClassId) (ad : Nat → Nat) (ba : Nat) (O : Int64) (S : teS) (x1 : Int32) (x2 : Int32) (r : Int32) (S1 : teS) (hf : fX6_bestPartner x1 x2 S = some (r, S1)) : cI l yX6_bestPartner wsX6_bestPartner rmX6_bestPartner D cy ad ba O S [.ref (ad 369), .int x1, .int x2] r S1 :=
  te_of (by decide) rfl (Nat.le_of_ble_eq_true rfl) (fun p e s m below meth c ls X hR hS hl => bX6_bestPartner_0 (res := (r, S1)) (S := S) (x1 := x1) (x2 := x2) X _ _ _ hR hS hl hf)
abbrev rmX6_best : Room := { frames := 5, cells := 0, slots := 0, locals := 116 }
theorem kdX6_best : yX6_best.cls = RX6 ∧ yX6_best.cls ≠ "java/lang/invoke/MethodHandle" ∧ yX6_best.cls ≠ "java/lang/invoke/VarHandle" ∧ (parseMethodDescriptor yX6_best.desc).map (fun d => d.parameters.length) = some 1 := by decide +kernel
theorem wX6_best_16 : Cond.fieldLink RX6 16 "TandemExchangeModel" "now" "[I" ∈ wsX6_best := by decide +kernel
theorem iX6_best_6 : ∀ w ∈ wsX60, w ∈ wsX6_best := by decide +kernel
theorem wX6_best_35 : Cond.fieldLink RX6 35 "TandemExchangeModel" "sums" "[I" ∈ wsX6_best := by decide +kernel
theorem wX6_best_32 : Cond.fieldLink RX6 32 "TandemExchangeModel" "pairs" "[I" ∈ wsX6_best := by decide +kernel
set_option maxRecDepth 100000 in
set_option maxHeartbeats 4000000 in
theorem bX6_best_16 {p : Program} {l : Launch} {e : Env} {s : State} {m : MethodId} {args : Array Value} {below : List Frame} {meth : Method} {c : Code} {D : va_G} {cy : Nat → ClassId} {ad : Nat → Nat} {ba : Nat} {O : Int64} {S : teS}  {x1 : Int32} {res : (Int32 × teS)} (X : teC wsX6_best RX6 cX6_best 3 (some .int) D cy ba p s m args meth c) : ∀ (S1 : teS) (y0 : Int32) (H : Heap) (locs : List Loc) (ls : Array Slot), teR D cy ad ba O S1 H → va_S (teA ba) s.heap H locs → lv_has ls 3 [(0, .ref (ad 369)), (1, .int x1)] → fX6_best_16 x1 S1 y0 = some res → W p l e (headSpec wsX6_best rmX6_best).room s m args below meth c H locs 0 0 (MQ below (va_Qi (fun a (u : teS) => a = res.1 ∧ u = res.2) (fun u t => teR D cy ad ba O u t.heap) (teA ba)) args s 0 0 (teA ba)) (F0 m 16 ls [.int y0, .ref (ad 369)]) := by
  have hx := X.1
  have hb := X.2.1
  have hown := X.2.2.2.2.1
  intro S1 y0 H locs ls hR hS hl hf
  unfold fX6_best_16 at hf
  obtain ⟨r_4, S2, hq_5, hf⟩ := bd2_some hf
  refine kVi (id := 369) (As := [.int y0]) (rest := []) X hR hS (zcX6_refused l D cy ad ba O S1 y0 _ _ hq_5) (cwV 1 X.2.2.2.2.2.1 gX6_best_X6_refused rfl rfl rfl kdX6_refused ⟨(Nat.le_of_ble_eq_true rfl), (Nat.le_of_ble_eq_true rfl)⟩) (by decide) rfl rfl rfl rfl hl.1 (Nat.le_of_ble_eq_true rfl) ⟨(Nat.le_of_ble_eq_true rfl), (Nat.le_of_ble_eq_true rfl)⟩ dX6_best_16 (fun H locs hR hS => ?_)
  refine lv_if_eq (tgt := 24) hx hb dX6_best_19 (by decide) (fun c_6 => ?_) (fun c_6 => ?_)
  · replace hf := ite_t c_6 hf
    refine lv_aload_n hx hb dX6_best_24 rfl (lv_at hl 0 rfl) ?_
    refine lv_aload_n hx hb dX6_best_25 rfl (lv_at hl 0 rfl) ?_
    refine rg_6_5 X hR iX6_best_6 wX6_best_16 dX6_best_26 ?_
    obtain ⟨S3, hq_8, hf⟩ := bd1_some hf
    refine kVv (id := 369) (As := [.ref (ad 372)]) (rest := []) X hR hS (zcX6_laySets l D cy ad ba O S2 372 rfl _ hq_8) (cwV 1 X.2.2.2.2.2.1 gX6_best_X6_laySets rfl rfl rfl kdX6_laySets ⟨(Nat.le_of_ble_eq_true rfl), (Nat.le_of_ble_eq_true rfl)⟩) (by decide) rfl rfl rfl rfl hl.1 (Nat.le_of_ble_eq_true rfl) ⟨(Nat.le_of_ble_eq_true rfl), (Nat.le_of_ble_eq_true rfl)⟩ dX6_best_29 (fun H locs hR hS => ?_)
    refine lv_iconst (v := (1 : Int32)) hx hb dX6_best_32 (by decide) ?_
    refine lv_aload_n hx hb dX6_best_33 rfl (lv_at hl 0 rfl) ?_
    refine rg_6_5 X hR iX6_best_6 wX6_best_16 dX6_best_34 ?_
    refine lv_iconst (v := (0 : Int32)) hx hb dX6_best_37 (by decide) ?_
    obtain ⟨h_9, hf⟩ := chk_some hf
    refine ra_int X hR (r := 372) rfl h_9 dX6_best_38 ?_
    refine lv_ishl hx hb dX6_best_39 ?_
    refine lv_iconst (v := (1 : Int32)) hx hb dX6_best_40 (by decide) ?_
    refine lv_isub hx hb dX6_best_41 ?_
    refine lv_istore_n (lv' := [(2, .int (((1 : Int32) <<< ((S3 372 (0 : Int32).toNatClampNeg) &&& 31)) - (1 : Int32))), (0, .ref (ad 369)), (1, .int x1)]) hx hb dX6_best_42 rfl hl (by decide) rfl (fun ls hl => ?_)
    refine lv_iload_n hx hb dX6_best_43 rfl (lv_at hl 2 rfl) ?_
    refine lv_if_ne (tgt := 56) hx hb dX6_best_44 (by decide) (fun c_10 => ?_) (fun c_10 => ?_)
    · replace hf := ite_f c_10 hf
      refine lv_aload_n hx hb dX6_best_56 rfl (lv_at hl 1 rfl) ?_
      refine rg_6_12 X hR iX6_best_6 wX6_best_35 dX6_best_57 ?_
      refine lv_iload_n hx hb dX6_best_60 rfl (lv_at hl 0 rfl) ?_
      obtain ⟨h_11, hf⟩ := chk_some hf
      refine ra_int X hR (r := 378) rfl h_11 dX6_best_61 ?_
      exact eI X hR hS (congrArg Prod.fst (Option.some.inj hf)) (congrArg Prod.snd (Option.some.inj hf)) dX6_best_62
    · replace hf := ite_t c_10 hf
      refine lv_aload_n hx hb dX6_best_47 rfl (lv_at hl 1 rfl) ?_
      refine rg_6_11 X hR iX6_best_6 wX6_best_32 dX6_best_48 ?_
      refine lv_iload_n hx hb dX6_best_51 rfl (lv_at hl 0 rfl) ?_
      obtain ⟨h_12, hf⟩ := chk_some hf
      refine ra_int X hR (r := 377) rfl h_12 dX6_best_52 ?_
      refine lv_goto (tgt := 62) hx hb dX6_best_53 (by decide) ?_
      exact eI X hR hS (congrArg Prod.fst (Option.some.inj hf)) (congrArg Prod.snd (Option.some.inj hf)) dX6_best_62
  · replace hf := ite_f c_6 hf
    refine lv_iconst (v := (0 : Int32)) hx hb dX6_best_22 (by decide) ?_
    exact eI X hR hS (congrArg Prod.fst (Option.some.inj hf)) (congrArg Prod.snd (Option.some.inj hf)) dX6_best_23
set_option maxRecDepth 100000 in
set_option maxHeartbeats 4000000 in
theorem bX6_best_0 {p : Program} {l : Launch} {e : Env} {s : State} {m : MethodId} {args : Array Value} {below : List Frame} {meth : Method} {c : Code} {D : va_G} {cy : Nat → ClassId} {ad : Nat → Nat} {ba : Nat} {O : Int64} {S : teS}  {x1 : Int32} {res : (Int32 × teS)} (X : teC wsX6_best RX6 cX6_best 3 (some .int) D cy ba p s m args meth c) (H : Heap) (locs : List Loc) (ls : Array Slot) (hR : teR D cy ad ba O S H) (hS : va_S (teA ba) s.heap H locs) (hl : lv_has ls 3 [(0, .ref (ad 369)), (1, .int x1)]) (hf : fX6_best x1 S = some res) : W p l e (headSpec wsX6_best rmX6_best).room s m args below meth c H locs 0 0 (MQ below (va_Qi (fun a (u : teS) => a = res.1 ∧ u = res.2) (fun u t => teR D cy ad ba O u t.heap) (teA ba)) args s 0 0 (teA ba)) (F0 m 0 ls []) := by
  have hx := X.1
  have hb := X.2.1
  have hown := X.2.2.2.2.1
  unfold fX6_best at hf
  refine lv_aload_n hx hb dX6_best_0 rfl (lv_at hl 0 rfl) ?_
  refine lv_iload_n hx hb dX6_best_1 rfl (lv_at hl 1 rfl) ?_
  refine lv_i2l hx hb dX6_best_2 rfl ?_
  refine lv_lconst (v := (0 : Int64)) hx hb dX6_best_3 (by decide) ?_
  refine lv_lconst (v := (1 : Int64)) hx hb dX6_best_4 (by decide) ?_
  obtain ⟨r_1, hq_2, hf⟩ := bd1_some hf
  refine kSi (As := [.long (x1).toInt64, .long (0 : Int64), .long (1 : Int64)]) (rest := [.ref (ad 369)]) X hR hS (zcX6_in l D cy ad ba O S ((x1).toInt64) (0 : Int64) (1 : Int64) _ hq_2) (va_cwS 3 X.2.2.2.2.2.1 gX6_best_X6_in rfl rfl rfl kdX6_in.2 ⟨(Nat.le_of_ble_eq_true rfl), (Nat.le_of_ble_eq_true rfl)⟩)  rfl rfl hl.1 (Nat.le_of_ble_eq_true rfl) ⟨(Nat.le_of_ble_eq_true rfl), (Nat.le_of_ble_eq_true rfl)⟩ dX6_best_5 (fun H locs hR hS => ?_)
  refine lv_if_eq (tgt := 15) hx hb dX6_best_8 (by decide) (fun c_3 => ?_) (fun c_3 => ?_)
  · replace hf := ite_t c_3 hf
    refine lv_iconst (v := (1 : Int32)) hx hb dX6_best_15 (by decide) ?_
    exact bX6_best_16 (S := S) (x1 := x1) X S ((1 : Int32)) _ _ _ hR hS (lv_sub hl [0, 1] rfl) hf
  · replace hf := ite_f c_3 hf
    refine lv_iconst (v := (0 : Int32)) hx hb dX6_best_11 (by decide) ?_
    refine lv_goto (tgt := 16) hx hb dX6_best_12 (by decide) ?_
    exact bX6_best_16 (S := S) (x1 := x1) X S ((0 : Int32)) _ _ _ hR hS (lv_sub hl [0, 1] rfl) hf
theorem zcX6_best (l : Launch) (D : va_G) (cy : Nat → ClassId) (ad : Nat → Nat) (ba : Nat) (O : Int64) (S : teS) (x1 : Int32) (r : Int32) (S1 : teS) (hf : fX6_best x1 S = some (r, S1)) : cI l yX6_best wsX6_best rmX6_best D cy ad ba O S [.ref (ad 369), .int x1] r S1 :=
  te_of (by decide) rfl (Nat.le_of_ble_eq_true rfl) (fun p e s m below meth c ls X hR hS hl => bX6_best_0 (res := (r, S1)) (S := S) (x1 := x1) X _ _ _ hR hS hl hf)
abbrev rmX6_missedMost : Room := { frames := 5, cells := 0, slots := 0, locals := 116 }
theorem kdX6_missedMost : yX6_missedMost.cls = RX6 ∧ yX6_missedMost.cls ≠ "java/lang/invoke/MethodHandle" ∧ yX6_missedMost.cls ≠ "java/lang/invoke/VarHandle" ∧ (parseMethodDescriptor yX6_missedMost.desc).map (fun d => d.parameters.length) = some 0 := by decide +kernel
theorem wX6_missedMost_38 : Cond.fieldLink RX6 38 "TandemExchangeModel" "refusal" "I" ∈ wsX6_missedMost := by decide +kernel
theorem iX6_missedMost_6 : ∀ w ∈ wsX60, w ∈ wsX6_missedMost := by decide +kernel
theorem wX6_missedMost_16 : Cond.fieldLink RX6 16 "TandemExchangeModel" "now" "[I" ∈ wsX6_missedMost := by decide +kernel
theorem wX6_missedMost_32 : Cond.fieldLink RX6 32 "TandemExchangeModel" "pairs" "[I" ∈ wsX6_missedMost := by decide +kernel
theorem wX6_missedMost_35 : Cond.fieldLink RX6 35 "TandemExchangeModel" "sums" "[I" ∈ wsX6_missedMost := by decide +kernel
set_option maxRecDepth 100000 in
set_option maxHeartbeats 4000000 in
theorem bX6_missedMost_127 {p : Program} {l : Launch} {e : Env} {s : State} {m : MethodId} {args : Array Value} {below : List Frame} {meth : Method} {c : Code} {D : va_G} {cy : Nat → ClassId} {ad : Nat → Nat} {ba : Nat} {O : Int64} {S : teS}  {res : (Int32 × teS)} (X : teC wsX6_missedMost RX6 cX6_missedMost 7 (some .int) D cy ba p s m args meth c) {q33 : teS → Int32 → Int32 → Int32 → Int32 → Option (Int32 × teS)} (hq33 : ∀ (S1 : teS) (v1 : Int32) (v2 : Int32) (v3 : Int32) (v4 : Int32) (H : Heap) (locs : List Loc) (ls : Array Slot), teR D cy ad ba O S1 H → va_S (teA ba) s.heap H locs → lv_has ls 7 [(0, .ref (ad 369)), (1, .int v1), (2, .int v2), (3, .int v3), (4, .int v4)] → q33 S1 v1 v2 v3 v4 = some res → W p l e (headSpec wsX6_missedMost rmX6_missedMost).room s m args below meth c H locs 0 0 (MQ below (va_Qi (fun a (u : teS) => a = res.1 ∧ u = res.2) (fun u t => teR D cy ad ba O u t.heap) (teA ba)) args s 0 0 (teA ba)) (F0 m 33 ls [])) : ∀ (S1 : teS) (v1 : Int32) (v3 : Int32) (v4 : Int32) (v5 : Int32) (v6 : Int32) (y0 : Int32) (H : Heap) (locs : List Loc) (ls : Array Slot), teR D cy ad ba O S1 H → va_S (teA ba) s.heap H locs → lv_has ls 7 [(0, .ref (ad 369)), (1, .int v1), (3, .int v3), (4, .int v4), (5, .int v5), (6, .int v6)] → fX6_missedMost_127 q33 S1 v1 v3 v4 v5 v6 y0 = some res → W p l e (headSpec wsX6_missedMost rmX6_missedMost).room s m args below meth c H locs 0 0 (MQ below (va_Qi (fun a (u : teS) => a = res.1 ∧ u = res.2) (fun u t => teR D cy ad ba O u t.heap) (teA ba)) args s 0 0 (teA ba)) (F0 m 127 ls [.int y0]) := by
  have hx := X.1
  have hb := X.2.1
  have hown := X.2.2.2.2.1
  intro S1 v1 v3 v4 v5 v6 y0 H locs ls hR hS hl hf
  unfold fX6_missedMost_127 at hf
  refine lv_istore_n (lv' := [(2, .int y0), (0, .ref (ad 369)), (1, .int v1), (3, .int v3), (4, .int v4), (5, .int v5), (6, .int v6)]) hx hb dX6_missedMost_127 rfl hl (by decide) rfl (fun ls hl => ?_)
  refine lv_iload hx hb dX6_missedMost_128 (lv_at hl 6 rfl) ?_
  refine lv_if_eq (tgt := 138) hx hb dX6_missedMost_130 (by decide) (fun c_15 => ?_) (fun c_15 => ?_)
  · replace hf := ite_t c_15 hf
    refine lv_iload_n hx hb dX6_missedMost_138 rfl (lv_at hl 3 rfl) ?_
    refine lv_istore_n (lv' := [(3, .int v3), (2, .int y0), (0, .ref (ad 369)), (1, .int v1), (4, .int v4), (5, .int v5), (6, .int v6)]) hx hb dX6_missedMost_139 rfl hl (by decide) rfl (fun ls hl => ?_)
    refine lv_iinc (v := (v4 + (1 : Int32))) (lv' := [(4, .int (v4 + (1 : Int32))), (3, .int v3), (2, .int y0), (0, .ref (ad 369)), (1, .int v1), (5, .int v5), (6, .int v6)]) hx hb dX6_missedMost_140 hl (k := 4) rfl rfl (by decide) rfl (fun ls hl => ?_)
    refine lv_goto (tgt := 33) hx hb dX6_missedMost_143 (by decide) ?_
    exact hq33 S1 (v1) (y0) (v3) ((v4 + (1 : Int32))) _ _ _ hR hS (lv_sub hl [3, 4, 2, 1, 0] rfl) hf
  · replace hf := ite_f c_15 hf
    refine lv_iload hx hb dX6_missedMost_133 (lv_at hl 5 rfl) ?_
    refine lv_goto (tgt := 139) hx hb dX6_missedMost_135 (by decide) ?_
    refine lv_istore_n (lv' := [(3, .int v5), (2, .int y0), (0, .ref (ad 369)), (1, .int v1), (4, .int v4), (5, .int v5), (6, .int v6)]) hx hb dX6_missedMost_139 rfl hl (by decide) rfl (fun ls hl => ?_)
    refine lv_iinc (v := (v4 + (1 : Int32))) (lv' := [(4, .int (v4 + (1 : Int32))), (3, .int v5), (2, .int y0), (0, .ref (ad 369)), (1, .int v1), (5, .int v5), (6, .int v6)]) hx hb dX6_missedMost_140 hl (k := 4) rfl rfl (by decide) rfl (fun ls hl => ?_)
    refine lv_goto (tgt := 33) hx hb dX6_missedMost_143 (by decide) ?_
    exact hq33 S1 (v1) (y0) (v5) ((v4 + (1 : Int32))) _ _ _ hR hS (lv_sub hl [3, 4, 2, 1, 0] rfl) hf
set_option maxRecDepth 100000 in
set_option maxHeartbeats 4000000 in
theorem bX6_missedMost_109 {p : Program} {l : Launch} {e : Env} {s : State} {m : MethodId} {args : Array Value} {below : List Frame} {meth : Method} {c : Code} {D : va_G} {cy : Nat → ClassId} {ad : Nat → Nat} {ba : Nat} {O : Int64} {S : teS}  {res : (Int32 × teS)} (X : teC wsX6_missedMost RX6 cX6_missedMost 7 (some .int) D cy ba p s m args meth c) {q33 : teS → Int32 → Int32 → Int32 → Int32 → Option (Int32 × teS)} (hq33 : ∀ (S1 : teS) (v1 : Int32) (v2 : Int32) (v3 : Int32) (v4 : Int32) (H : Heap) (locs : List Loc) (ls : Array Slot), teR D cy ad ba O S1 H → va_S (teA ba) s.heap H locs → lv_has ls 7 [(0, .ref (ad 369)), (1, .int v1), (2, .int v2), (3, .int v3), (4, .int v4)] → q33 S1 v1 v2 v3 v4 = some res → W p l e (headSpec wsX6_missedMost rmX6_missedMost).room s m args below meth c H locs 0 0 (MQ below (va_Qi (fun a (u : teS) => a = res.1 ∧ u = res.2) (fun u t => teR D cy ad ba O u t.heap) (teA ba)) args s 0 0 (teA ba)) (F0 m 33 ls [])) : ∀ (S1 : teS) (v1 : Int32) (v2 : Int32) (v3 : Int32) (v4 : Int32) (v5 : Int32) (H : Heap) (locs : List Loc) (ls : Array Slot), teR D cy ad ba O S1 H → va_S (teA ba) s.heap H locs → lv_has ls 7 [(0, .ref (ad 369)), (1, .int v1), (2, .int v2), (3, .int v3), (4, .int v4), (5, .int v5)] → fX6_missedMost_109 q33 S1 v1 v2 v3 v4 v5 = some res → W p l e (headSpec wsX6_missedMost rmX6_missedMost).room s m args below meth c H locs 0 0 (MQ below (va_Qi (fun a (u : teS) => a = res.1 ∧ u = res.2) (fun u t => teR D cy ad ba O u t.heap) (teA ba)) args s 0 0 (teA ba)) (F0 m 109 ls []) := by
  have hx := X.1
  have hb := X.2.1
  have hown := X.2.2.2.2.1
  intro S1 v1 v2 v3 v4 v5 H locs ls hR hS hl hf
  unfold fX6_missedMost_109 at hf
  refine lv_iconst (v := (1 : Int32)) hx hb dX6_missedMost_109 (by decide) ?_
  refine lv_goto (tgt := 114) hx hb dX6_missedMost_110 (by decide) ?_
  refine lv_istore (lv' := [(6, .int (1 : Int32)), (0, .ref (ad 369)), (1, .int v1), (2, .int v2), (3, .int v3), (4, .int v4), (5, .int v5)]) hx hb dX6_missedMost_114 hl (by decide) rfl (fun ls hl => ?_)
  refine lv_iload hx hb dX6_missedMost_116 (lv_at hl 0 rfl) ?_
  refine lv_if_eq (tgt := 126) hx hb dX6_missedMost_118 (by decide) (fun c_14 => ?_) (fun c_14 => ?_)
  · replace hf := ite_t c_14 hf
    refine lv_iload_n hx hb dX6_missedMost_126 rfl (lv_at hl 3 rfl) ?_
    exact bX6_missedMost_127 (S := S)  X hq33 S1 (v1) (v3) (v4) (v5) ((1 : Int32)) (v2) _ _ _ hR hS (lv_sub hl [1, 2, 4, 5, 6, 0] rfl) hf
  · replace hf := ite_f c_14 hf
    refine lv_iload hx hb dX6_missedMost_121 (lv_at hl 5 rfl) ?_
    refine lv_goto (tgt := 127) hx hb dX6_missedMost_123 (by decide) ?_
    exact bX6_missedMost_127 (S := S)  X hq33 S1 (v1) (v3) (v4) (v5) ((1 : Int32)) (v4) _ _ _ hR hS (lv_sub hl [1, 2, 4, 5, 6, 0] rfl) hf
set_option maxRecDepth 100000 in
set_option maxHeartbeats 4000000 in
theorem bX6_missedMost_33 {p : Program} {l : Launch} {e : Env} {s : State} {m : MethodId} {args : Array Value} {below : List Frame} {meth : Method} {c : Code} {D : va_G} {cy : Nat → ClassId} {ad : Nat → Nat} {ba : Nat} {O : Int64} {S : teS}  {res : (Int32 × teS)} (X : teC wsX6_missedMost RX6 cX6_missedMost 7 (some .int) D cy ba p s m args meth c) : ∀ (n : Nat), ∀ (S1 : teS) (v1 : Int32) (v2 : Int32) (v3 : Int32) (v4 : Int32) (H : Heap) (locs : List Loc) (ls : Array Slot), teR D cy ad ba O S1 H → va_S (teA ba) s.heap H locs → lv_has ls 7 [(0, .ref (ad 369)), (1, .int v1), (2, .int v2), (3, .int v3), (4, .int v4)] → fX6_missedMost_33 n S1 v1 v2 v3 v4 = some res → W p l e (headSpec wsX6_missedMost rmX6_missedMost).room s m args below meth c H locs 0 0 (MQ below (va_Qi (fun a (u : teS) => a = res.1 ∧ u = res.2) (fun u t => teR D cy ad ba O u t.heap) (teA ba)) args s 0 0 (teA ba)) (F0 m 33 ls []) := by
  have hx := X.1
  have hb := X.2.1
  have hown := X.2.2.2.2.1
  intro n
  induction n with
  | zero =>
    intro S1 v1 v2 v3 v4 H locs ls hR hS hl hf
    exact nomatch hf
  | succ n ih =>
    intro S1 v1 v2 v3 v4 H locs ls hR hS hl hf
    unfold fX6_missedMost_33 at hf
    refine lv_iload hx hb dX6_missedMost_33 (lv_at hl 4 rfl) ?_
    refine lv_aload_n hx hb dX6_missedMost_35 rfl (lv_at hl 0 rfl) ?_
    refine rg_6_5 X hR iX6_missedMost_6 wX6_missedMost_16 dX6_missedMost_36 ?_
    refine lv_iconst (v := (0 : Int32)) hx hb dX6_missedMost_39 (by decide) ?_
    obtain ⟨h_4, hf⟩ := chk_some hf
    refine ra_int X hR (r := 372) rfl h_4 dX6_missedMost_40 ?_
    refine lv_icmp_ge (tgt := 146) hx hb dX6_missedMost_41 (by decide) (fun c_5 => ?_) (fun c_5 => ?_)
    · replace hf := ite_t c_5 hf
      refine lv_iload_n hx hb dX6_missedMost_146 rfl (lv_at hl 2 rfl) ?_
      exact eI X hR hS (congrArg Prod.fst (Option.some.inj hf)) (congrArg Prod.snd (Option.some.inj hf)) dX6_missedMost_147
    · replace hf := ite_f c_5 hf
      refine lv_iload_n hx hb dX6_missedMost_44 rfl (lv_at hl 1 rfl) ?_
      refine lv_iconst (v := (1 : Int32)) hx hb dX6_missedMost_45 (by decide) ?_
      refine lv_iload hx hb dX6_missedMost_46 (lv_at hl 4 rfl) ?_
      refine lv_ishl hx hb dX6_missedMost_48 ?_
      refine lv_iconst (v := (-1 : Int32)) hx hb dX6_missedMost_49 (by decide) ?_
      refine lv_ixor hx hb dX6_missedMost_50 ?_
      refine lv_iand hx hb dX6_missedMost_51 ?_
      refine lv_istore (lv' := [(5, .int (v1 &&& (((1 : Int32) <<< (v4 &&& 31)) ^^^ (-1 : Int32)))), (0, .ref (ad 369)), (1, .int v1), (2, .int v2), (3, .int v3), (4, .int v4)]) hx hb dX6_missedMost_52 hl (by decide) rfl (fun ls hl => ?_)
      refine lv_iload_n hx hb dX6_missedMost_54 rfl (lv_at hl 3 rfl) ?_
      refine lv_sipush (v := (-9999 : Int32)) hx hb dX6_missedMost_55 (by decide) ?_
      refine lv_icmp_eq (tgt := 109) hx hb dX6_missedMost_58 (by decide) (fun c_6 => ?_) (fun c_6 => ?_)
      · replace hf := ite_t c_6 hf
        exact bX6_missedMost_109 (S := S)  X ih S1 (v1) (v2) (v3) (v4) ((v1 &&& (((1 : Int32) <<< (v4 &&& 31)) ^^^ (-1 : Int32)))) _ _ _ hR hS (lv_sub hl [1, 2, 3, 4, 5, 0] rfl) hf
      · replace hf := ite_f c_6 hf
        refine lv_aload_n hx hb dX6_missedMost_61 rfl (lv_at hl 1 rfl) ?_
        refine rg_6_11 X hR iX6_missedMost_6 wX6_missedMost_32 dX6_missedMost_62 ?_
        refine lv_iload hx hb dX6_missedMost_65 (lv_at hl 0 rfl) ?_
        obtain ⟨h_7, hf⟩ := chk_some hf
        refine ra_int X hR (r := 377) rfl h_7 dX6_missedMost_67 ?_
        refine lv_aload_n hx hb dX6_missedMost_68 rfl (lv_at hl 1 rfl) ?_
        refine rg_6_11 X hR iX6_missedMost_6 wX6_missedMost_32 dX6_missedMost_69 ?_
        refine lv_iload_n hx hb dX6_missedMost_72 rfl (lv_at hl 4 rfl) ?_
        obtain ⟨h_8, hf⟩ := chk_some hf
        refine ra_int X hR (r := 377) rfl h_8 dX6_missedMost_73 ?_
        refine lv_icmp_lt (tgt := 109) hx hb dX6_missedMost_74 (by decide) (fun c_9 => ?_) (fun c_9 => ?_)
        · replace hf := ite_t c_9 hf
          exact bX6_missedMost_109 (S := S)  X ih S1 (v1) (v2) (v3) (v4) ((v1 &&& (((1 : Int32) <<< (v4 &&& 31)) ^^^ (-1 : Int32)))) _ _ _ hR hS (lv_sub hl [1, 2, 3, 4, 5, 0] rfl) hf
        · replace hf := ite_f c_9 hf
          refine lv_aload_n hx hb dX6_missedMost_77 rfl (lv_at hl 1 rfl) ?_
          refine rg_6_11 X hR iX6_missedMost_6 wX6_missedMost_32 dX6_missedMost_78 ?_
          refine lv_iload hx hb dX6_missedMost_81 (lv_at hl 0 rfl) ?_
          refine ra_int X hR (r := 377) rfl h_7 dX6_missedMost_83 ?_
          refine lv_aload_n hx hb dX6_missedMost_84 rfl (lv_at hl 1 rfl) ?_
          refine rg_6_11 X hR iX6_missedMost_6 wX6_missedMost_32 dX6_missedMost_85 ?_
          refine lv_iload_n hx hb dX6_missedMost_88 rfl (lv_at hl 4 rfl) ?_
          refine ra_int X hR (r := 377) rfl h_8 dX6_missedMost_89 ?_
          refine lv_icmp_ne (tgt := 113) hx hb dX6_missedMost_90 (by decide) (fun c_10 => ?_) (fun c_10 => ?_)
          · replace hf := ite_f c_10 hf
            refine lv_iconst (v := (0 : Int32)) hx hb dX6_missedMost_113 (by decide) ?_
            refine lv_istore (lv' := [(6, .int (0 : Int32)), (5, .int (v1 &&& (((1 : Int32) <<< (v4 &&& 31)) ^^^ (-1 : Int32)))), (0, .ref (ad 369)), (1, .int v1), (2, .int v2), (3, .int v3), (4, .int v4)]) hx hb dX6_missedMost_114 hl (by decide) rfl (fun ls hl => ?_)
            refine lv_iload hx hb dX6_missedMost_116 (lv_at hl 0 rfl) ?_
            refine lv_if_eq (tgt := 126) hx hb dX6_missedMost_118 (by decide) (fun c_11 => ?_) (fun c_11 => ?_)
            · replace hf := ite_t c_11 hf
              refine lv_iload_n hx hb dX6_missedMost_126 rfl (lv_at hl 4 rfl) ?_
              exact bX6_missedMost_127 (S := S)  X ih S1 (v1) (v3) (v4) ((v1 &&& (((1 : Int32) <<< (v4 &&& 31)) ^^^ (-1 : Int32)))) ((0 : Int32)) (v2) _ _ _ hR hS (lv_sub hl [2, 3, 5, 6, 1, 0] rfl) hf
            · replace hf := ite_f c_11 hf
              refine lv_iload hx hb dX6_missedMost_121 (lv_at hl 6 rfl) ?_
              refine lv_goto (tgt := 127) hx hb dX6_missedMost_123 (by decide) ?_
              exact bX6_missedMost_127 (S := S)  X ih S1 (v1) (v3) (v4) ((v1 &&& (((1 : Int32) <<< (v4 &&& 31)) ^^^ (-1 : Int32)))) ((0 : Int32)) (v4) _ _ _ hR hS (lv_sub hl [2, 3, 5, 6, 1, 0] rfl) hf
          · replace hf := ite_t c_10 hf
            refine lv_aload_n hx hb dX6_missedMost_93 rfl (lv_at hl 1 rfl) ?_
            refine rg_6_12 X hR iX6_missedMost_6 wX6_missedMost_35 dX6_missedMost_94 ?_
            refine lv_iload hx hb dX6_missedMost_97 (lv_at hl 0 rfl) ?_
            refine ra_int X hR (r := 378) rfl h_7 dX6_missedMost_99 ?_
            refine lv_aload_n hx hb dX6_missedMost_100 rfl (lv_at hl 1 rfl) ?_
            refine rg_6_12 X hR iX6_missedMost_6 wX6_missedMost_35 dX6_missedMost_101 ?_
            refine lv_iload_n hx hb dX6_missedMost_104 rfl (lv_at hl 4 rfl) ?_
            refine ra_int X hR (r := 378) rfl h_8 dX6_missedMost_105 ?_
            refine lv_icmp_ge (tgt := 113) hx hb dX6_missedMost_106 (by decide) (fun c_12 => ?_) (fun c_12 => ?_)
            · replace hf := ite_t c_12 hf
              refine lv_iconst (v := (0 : Int32)) hx hb dX6_missedMost_113 (by decide) ?_
              refine lv_istore (lv' := [(6, .int (0 : Int32)), (5, .int (v1 &&& (((1 : Int32) <<< (v4 &&& 31)) ^^^ (-1 : Int32)))), (0, .ref (ad 369)), (1, .int v1), (2, .int v2), (3, .int v3), (4, .int v4)]) hx hb dX6_missedMost_114 hl (by decide) rfl (fun ls hl => ?_)
              refine lv_iload hx hb dX6_missedMost_116 (lv_at hl 0 rfl) ?_
              refine lv_if_eq (tgt := 126) hx hb dX6_missedMost_118 (by decide) (fun c_13 => ?_) (fun c_13 => ?_)
              · replace hf := ite_t c_13 hf
                refine lv_iload_n hx hb dX6_missedMost_126 rfl (lv_at hl 4 rfl) ?_
                exact bX6_missedMost_127 (S := S)  X ih S1 (v1) (v3) (v4) ((v1 &&& (((1 : Int32) <<< (v4 &&& 31)) ^^^ (-1 : Int32)))) ((0 : Int32)) (v2) _ _ _ hR hS (lv_sub hl [2, 3, 5, 6, 1, 0] rfl) hf
              · replace hf := ite_f c_13 hf
                refine lv_iload hx hb dX6_missedMost_121 (lv_at hl 6 rfl) ?_
                refine lv_goto (tgt := 127) hx hb dX6_missedMost_123 (by decide) ?_
                exact bX6_missedMost_127 (S := S)  X ih S1 (v1) (v3) (v4) ((v1 &&& (((1 : Int32) <<< (v4 &&& 31)) ^^^ (-1 : Int32)))) ((0 : Int32)) (v4) _ _ _ hR hS (lv_sub hl [2, 3, 5, 6, 1, 0] rfl) hf
            · replace hf := ite_f c_12 hf
              exact bX6_missedMost_109 (S := S)  X ih S1 (v1) (v2) (v3) (v4) ((v1 &&& (((1 : Int32) <<< (v4 &&& 31)) ^^^ (-1 : Int32)))) _ _ _ hR hS (lv_sub hl [1, 2, 3, 4, 5, 0] rfl) hf
set_option maxRecDepth 100000 in
set_option maxHeartbeats 4000000 in
theorem bX6_missedMost_0 {p : Program} {l : Launch} {e : Env} {s : State} {m : MethodId} {args : Array Value} {below : List Frame} {meth : Method} {c : Code} {D : va_G} {cy : Nat → ClassId} {ad : Nat → Nat} {ba : Nat} {O : Int64} {S : teS}  {res : (Int32 × teS)} (X : teC wsX6_missedMost RX6 cX6_missedMost 7 (some .int) D cy ba p s m args meth c) (H : Heap) (locs : List Loc) (ls : Array Slot) (hR : teR D cy ad ba O S H) (hS : va_S (teA ba) s.heap H locs) (hl : lv_has ls 7 [(0, .ref (ad 369))]) (hf : fX6_missedMost S = some res) : W p l e (headSpec wsX6_missedMost rmX6_missedMost).room s m args below meth c H locs 0 0 (MQ below (va_Qi (fun a (u : teS) => a = res.1 ∧ u = res.2) (fun u t => teR D cy ad ba O u t.heap) (teA ba)) args s 0 0 (teA ba)) (F0 m 0 ls []) := by
  have hx := X.1
  have hb := X.2.1
  have hown := X.2.2.2.2.1
  unfold fX6_missedMost at hf
  refine lv_aload_n hx hb dX6_missedMost_0 rfl (lv_at hl 0 rfl) ?_
  refine lv_iconst (v := (0 : Int32)) hx hb dX6_missedMost_1 (by decide) ?_
  refine rp_6_0 X hR hS iX6_missedMost_6 wX6_missedMost_38 dX6_missedMost_2 (fun H locs hR hS => ?_)
  generalize teu S 369 0 (0 : Int32) = S1 at hf hR
  replace hf := lt1_e hf
  refine lv_aload_n hx hb dX6_missedMost_5 rfl (lv_at hl 0 rfl) ?_
  refine lv_aload_n hx hb dX6_missedMost_6 rfl (lv_at hl 0 rfl) ?_
  refine rg_6_5 X hR iX6_missedMost_6 wX6_missedMost_16 dX6_missedMost_7 ?_
  obtain ⟨S2, hq_2, hf⟩ := bd1_some hf
  refine kVv (id := 369) (As := [.ref (ad 372)]) (rest := []) X hR hS (zcX6_laySets l D cy ad ba O S1 372 rfl _ hq_2) (cwV 1 X.2.2.2.2.2.1 gX6_missedMost_X6_laySets rfl rfl rfl kdX6_laySets ⟨(Nat.le_of_ble_eq_true rfl), (Nat.le_of_ble_eq_true rfl)⟩) (by decide) rfl rfl rfl rfl hl.1 (Nat.le_of_ble_eq_true rfl) ⟨(Nat.le_of_ble_eq_true rfl), (Nat.le_of_ble_eq_true rfl)⟩ dX6_missedMost_10 (fun H locs hR hS => ?_)
  refine lv_iconst (v := (1 : Int32)) hx hb dX6_missedMost_13 (by decide) ?_
  refine lv_aload_n hx hb dX6_missedMost_14 rfl (lv_at hl 0 rfl) ?_
  refine rg_6_5 X hR iX6_missedMost_6 wX6_missedMost_16 dX6_missedMost_15 ?_
  refine lv_iconst (v := (0 : Int32)) hx hb dX6_missedMost_18 (by decide) ?_
  obtain ⟨h_3, hf⟩ := chk_some hf
  refine ra_int X hR (r := 372) rfl h_3 dX6_missedMost_19 ?_
  refine lv_ishl hx hb dX6_missedMost_20 ?_
  refine lv_iconst (v := (1 : Int32)) hx hb dX6_missedMost_21 (by decide) ?_
  refine lv_isub hx hb dX6_missedMost_22 ?_
  refine lv_istore_n (lv' := [(1, .int (((1 : Int32) <<< ((S2 372 (0 : Int32).toNatClampNeg) &&& 31)) - (1 : Int32))), (0, .ref (ad 369))]) hx hb dX6_missedMost_23 rfl hl (by decide) rfl (fun ls hl => ?_)
  refine lv_sipush (v := (-9999 : Int32)) hx hb dX6_missedMost_24 (by decide) ?_
  refine lv_istore_n (lv' := [(2, .int (-9999 : Int32)), (1, .int (((1 : Int32) <<< ((S2 372 (0 : Int32).toNatClampNeg) &&& 31)) - (1 : Int32))), (0, .ref (ad 369))]) hx hb dX6_missedMost_27 rfl hl (by decide) rfl (fun ls hl => ?_)
  refine lv_iconst (v := (0 : Int32)) hx hb dX6_missedMost_28 (by decide) ?_
  refine lv_istore_n (lv' := [(3, .int (0 : Int32)), (2, .int (-9999 : Int32)), (1, .int (((1 : Int32) <<< ((S2 372 (0 : Int32).toNatClampNeg) &&& 31)) - (1 : Int32))), (0, .ref (ad 369))]) hx hb dX6_missedMost_29 rfl hl (by decide) rfl (fun ls hl => ?_)
  refine lv_iconst (v := (0 : Int32)) hx hb dX6_missedMost_30 (by decide) ?_
  refine lv_istore (lv' := [(4, .int (0 : Int32)), (3, .int (0 : Int32)), (2, .int (-9999 : Int32)), (1, .int (((1 : Int32) <<< ((S2 372 (0 : Int32).toNatClampNeg) &&& 31)) - (1 : Int32))), (0, .ref (ad 369))]) hx hb dX6_missedMost_31 hl (by decide) rfl (fun ls hl => ?_)
  exact bX6_missedMost_33 (S := S)  X 2000 S2 ((((1 : Int32) <<< ((S2 372 (0 : Int32).toNatClampNeg) &&& 31)) - (1 : Int32))) ((-9999 : Int32)) ((0 : Int32)) ((0 : Int32)) _ _ _ hR hS (lv_sub hl [4, 3, 2, 1, 0] rfl) hf
theorem zcX6_missedMost (l : Launch) (D : va_G) (cy : Nat → ClassId) (ad : Nat → Nat) (ba : Nat) (O : Int64) (S : teS) (r : Int32) (S1 : teS) (hf : fX6_missedMost S = some (r, S1)) : cI l yX6_missedMost wsX6_missedMost rmX6_missedMost D cy ad ba O S [.ref (ad 369)] r S1 :=
  te_of (by decide) rfl (Nat.le_of_ble_eq_true rfl) (fun p e s m below meth c ls X hR hS hl => bX6_missedMost_0 (res := (r, S1)) (S := S)  X _ _ _ hR hS hl hf)
abbrev rmX6_ahead : Room := { frames := 5, cells := 0, slots := 0, locals := 115 }
theorem kdX6_ahead : yX6_ahead.cls = RX6 ∧ yX6_ahead.cls ≠ "java/lang/invoke/MethodHandle" ∧ yX6_ahead.cls ≠ "java/lang/invoke/VarHandle" ∧ (parseMethodDescriptor yX6_ahead.desc).map (fun d => d.parameters.length) = some 4 := by decide +kernel
theorem wX6_ahead_16 : Cond.fieldLink RX6 16 "TandemExchangeModel" "now" "[I" ∈ wsX6_ahead := by decide +kernel
theorem iX6_ahead_6 : ∀ w ∈ wsX60, w ∈ wsX6_ahead := by decide +kernel
theorem wX6_ahead_199 : Cond.constantLong RX6 199 (60) ∈ wsX6_ahead := by decide +kernel
theorem wX6_ahead_150 : Cond.constantLong RX6 150 (10) ∈ wsX6_ahead := by decide +kernel
theorem wX6_ahead_19 : Cond.fieldLink RX6 19 "TandemExchangeModel" "trial" "[I" ∈ wsX6_ahead := by decide +kernel
set_option maxRecDepth 100000 in
set_option maxHeartbeats 4000000 in
theorem bX6_ahead_77 {p : Program} {l : Launch} {e : Env} {s : State} {m : MethodId} {args : Array Value} {below : List Frame} {meth : Method} {c : Code} {D : va_G} {cy : Nat → ClassId} {ad : Nat → Nat} {ba : Nat} {O : Int64} {S : teS}  {x1 : Int32} {x2 : Int32} {x3 : Int32} {x4 : Int32} {res : (Int32 × teS)} (X : teC wsX6_ahead RX6 cX6_ahead 6 (some .int) D cy ba p s m args meth c) : ∀ (n : Nat), ∀ (S1 : teS) (v5 : Int32) (H : Heap) (locs : List Loc) (ls : Array Slot), teR D cy ad ba O S1 H → va_S (teA ba) s.heap H locs → lv_has ls 6 [(0, .ref (ad 369)), (1, .int x1), (2, .int x2), (3, .int x3), (4, .int x4), (5, .int v5)] → fX6_ahead_77 x1 x2 x3 x4 n S1 v5 = some res → W p l e (headSpec wsX6_ahead rmX6_ahead).room s m args below meth c H locs 0 0 (MQ below (va_Qi (fun a (u : teS) => a = res.1 ∧ u = res.2) (fun u t => teR D cy ad ba O u t.heap) (teA ba)) args s 0 0 (teA ba)) (F0 m 77 ls []) := by
  have hx := X.1
  have hb := X.2.1
  have hown := X.2.2.2.2.1
  intro n
  induction n with
  | zero =>
    intro S1 v5 H locs ls hR hS hl hf
    exact nomatch hf
  | succ n ih =>
    intro S1 v5 H locs ls hR hS hl hf
    unfold fX6_ahead_77 at hf
    refine lv_iload hx hb dX6_ahead_77 (lv_at hl 5 rfl) ?_
    refine lv_iload_n hx hb dX6_ahead_79 rfl (lv_at hl 2 rfl) ?_
    refine lv_icmp_ge (tgt := 97) hx hb dX6_ahead_80 (by decide) (fun c_18 => ?_) (fun c_18 => ?_)
    · replace hf := ite_t c_18 hf
      refine lv_aload_n hx hb dX6_ahead_97 rfl (lv_at hl 0 rfl) ?_
      refine rg_6_6 X hR iX6_ahead_6 wX6_ahead_19 dX6_ahead_98 ?_
      refine lv_iload_n hx hb dX6_ahead_101 rfl (lv_at hl 1 rfl) ?_
      refine lv_iload hx hb dX6_ahead_102 (lv_at hl 4 rfl) ?_
      obtain ⟨r_19, hq_20, hf⟩ := bd1_some hf
      refine kSi (As := [.ref (ad 373), .int x1, .int x4]) (rest := []) X hR hS (zcX6_detail l D cy ad ba O S1 373 x1 x4 rfl _ hq_20) (va_cwS 3 X.2.2.2.2.2.1 gX6_ahead_X6_detail rfl rfl rfl kdX6_detail.2 ⟨(Nat.le_of_ble_eq_true rfl), (Nat.le_of_ble_eq_true rfl)⟩)  rfl rfl hl.1 (Nat.le_of_ble_eq_true rfl) ⟨(Nat.le_of_ble_eq_true rfl), (Nat.le_of_ble_eq_true rfl)⟩ dX6_ahead_104 (fun H locs hR hS => ?_)
      exact eI X hR hS (congrArg Prod.fst (Option.some.inj hf)) (congrArg Prod.snd (Option.some.inj hf)) dX6_ahead_107
    · replace hf := ite_f c_18 hf
      refine lv_aload_n hx hb dX6_ahead_83 rfl (lv_at hl 0 rfl) ?_
      refine rg_6_6 X hR iX6_ahead_6 wX6_ahead_19 dX6_ahead_84 ?_
      refine lv_iload_n hx hb dX6_ahead_87 rfl (lv_at hl 3 rfl) ?_
      obtain ⟨S2, hq_22, hf⟩ := bd1_some hf
      refine kSv (As := [.ref (ad 373), .int x3]) (rest := []) X hR hS (zcX6_weekOn l D cy ad ba O S1 373 x3 rfl _ hq_22) (va_cwS 2 X.2.2.2.2.2.1 gX6_ahead_X6_weekOn rfl rfl rfl kdX6_weekOn.2 ⟨(Nat.le_of_ble_eq_true rfl), (Nat.le_of_ble_eq_true rfl)⟩)  rfl rfl hl.1 (Nat.le_of_ble_eq_true rfl) ⟨(Nat.le_of_ble_eq_true rfl), (Nat.le_of_ble_eq_true rfl)⟩ dX6_ahead_88 (fun H locs hR hS => ?_)
      refine lv_iinc (v := (v5 + (1 : Int32))) (lv' := [(5, .int (v5 + (1 : Int32))), (0, .ref (ad 369)), (1, .int x1), (2, .int x2), (3, .int x3), (4, .int x4)]) hx hb dX6_ahead_91 hl (k := 5) rfl rfl (by decide) rfl (fun ls hl => ?_)
      refine lv_goto (tgt := 77) hx hb dX6_ahead_94 (by decide) ?_
      exact ih S2 ((v5 + (1 : Int32))) _ _ _ hR hS (lv_sub hl [1, 2, 3, 4, 5, 0] rfl) hf
set_option maxRecDepth 100000 in
set_option maxHeartbeats 4000000 in
theorem bX6_ahead_53 {p : Program} {l : Launch} {e : Env} {s : State} {m : MethodId} {args : Array Value} {below : List Frame} {meth : Method} {c : Code} {D : va_G} {cy : Nat → ClassId} {ad : Nat → Nat} {ba : Nat} {O : Int64} {S : teS}  {x1 : Int32} {x2 : Int32} {x3 : Int32} {x4 : Int32} {res : (Int32 × teS)} (X : teC wsX6_ahead RX6 cX6_ahead 6 (some .int) D cy ba p s m args meth c) : ∀ (S1 : teS) (y0 : Int32) (H : Heap) (locs : List Loc) (ls : Array Slot), teR D cy ad ba O S1 H → va_S (teA ba) s.heap H locs → lv_has ls 6 [(0, .ref (ad 369)), (1, .int x1), (2, .int x2), (3, .int x3), (4, .int x4)] → fX6_ahead_53 x1 x2 x3 x4 S1 y0 = some res → W p l e (headSpec wsX6_ahead rmX6_ahead).room s m args below meth c H locs 0 0 (MQ below (va_Qi (fun a (u : teS) => a = res.1 ∧ u = res.2) (fun u t => teR D cy ad ba O u t.heap) (teA ba)) args s 0 0 (teA ba)) (F0 m 53 ls [.int y0, .ref (ad 369)]) := by
  have hx := X.1
  have hb := X.2.1
  have hown := X.2.2.2.2.1
  intro S1 y0 H locs ls hR hS hl hf
  unfold fX6_ahead_53 at hf
  obtain ⟨r_13, S2, hq_14, hf⟩ := bd2_some hf
  refine kVi (id := 369) (As := [.int y0]) (rest := []) X hR hS (zcX6_refused l D cy ad ba O S1 y0 _ _ hq_14) (cwV 1 X.2.2.2.2.2.1 gX6_ahead_X6_refused rfl rfl rfl kdX6_refused ⟨(Nat.le_of_ble_eq_true rfl), (Nat.le_of_ble_eq_true rfl)⟩) (by decide) rfl rfl rfl rfl hl.1 (Nat.le_of_ble_eq_true rfl) ⟨(Nat.le_of_ble_eq_true rfl), (Nat.le_of_ble_eq_true rfl)⟩ dX6_ahead_53 (fun H locs hR hS => ?_)
  refine lv_if_eq (tgt := 61) hx hb dX6_ahead_56 (by decide) (fun c_15 => ?_) (fun c_15 => ?_)
  · replace hf := ite_t c_15 hf
    refine lv_aload_n hx hb dX6_ahead_61 rfl (lv_at hl 0 rfl) ?_
    refine rg_6_5 X hR iX6_ahead_6 wX6_ahead_16 dX6_ahead_62 ?_
    refine lv_iconst (v := (0 : Int32)) hx hb dX6_ahead_65 (by decide) ?_
    refine lv_aload_n hx hb dX6_ahead_66 rfl (lv_at hl 0 rfl) ?_
    refine rg_6_6 X hR iX6_ahead_6 wX6_ahead_19 dX6_ahead_67 ?_
    refine lv_iconst (v := (0 : Int32)) hx hb dX6_ahead_70 (by decide) ?_
    obtain ⟨S3, hq_17, hf⟩ := bd1_some hf
    refine kSv (As := [.ref (ad 372), .int (0 : Int32), .ref (ad 373), .int (0 : Int32)]) (rest := []) X hR hS (zcX6_copyPage l D cy ad ba O S2 372 (0 : Int32) 373 (0 : Int32) rfl rfl _ hq_17) (va_cwS 4 X.2.2.2.2.2.1 gX6_ahead_X6_copyPage rfl rfl rfl kdX6_copyPage.2 ⟨(Nat.le_of_ble_eq_true rfl), (Nat.le_of_ble_eq_true rfl)⟩)  rfl rfl hl.1 (Nat.le_of_ble_eq_true rfl) ⟨(Nat.le_of_ble_eq_true rfl), (Nat.le_of_ble_eq_true rfl)⟩ dX6_ahead_71 (fun H locs hR hS => ?_)
    refine lv_iconst (v := (0 : Int32)) hx hb dX6_ahead_74 (by decide) ?_
    refine lv_istore (lv' := [(5, .int (0 : Int32)), (0, .ref (ad 369)), (1, .int x1), (2, .int x2), (3, .int x3), (4, .int x4)]) hx hb dX6_ahead_75 hl (by decide) rfl (fun ls hl => ?_)
    exact bX6_ahead_77 (S := S) (x1 := x1) (x2 := x2) (x3 := x3) (x4 := x4) X 2000 S3 ((0 : Int32)) _ _ _ hR hS (lv_sub hl [1, 2, 3, 4, 5, 0] rfl) hf
  · replace hf := ite_f c_15 hf
    refine lv_iconst (v := (0 : Int32)) hx hb dX6_ahead_59 (by decide) ?_
    exact eI X hR hS (congrArg Prod.fst (Option.some.inj hf)) (congrArg Prod.snd (Option.some.inj hf)) dX6_ahead_60
set_option maxRecDepth 100000 in
set_option maxHeartbeats 4000000 in
theorem bX6_ahead_0 {p : Program} {l : Launch} {e : Env} {s : State} {m : MethodId} {args : Array Value} {below : List Frame} {meth : Method} {c : Code} {D : va_G} {cy : Nat → ClassId} {ad : Nat → Nat} {ba : Nat} {O : Int64} {S : teS}  {x1 : Int32} {x2 : Int32} {x3 : Int32} {x4 : Int32} {res : (Int32 × teS)} (X : teC wsX6_ahead RX6 cX6_ahead 6 (some .int) D cy ba p s m args meth c) (H : Heap) (locs : List Loc) (ls : Array Slot) (hR : teR D cy ad ba O S H) (hS : va_S (teA ba) s.heap H locs) (hl : lv_has ls 6 [(0, .ref (ad 369)), (1, .int x1), (2, .int x2), (3, .int x3), (4, .int x4)]) (hf : fX6_ahead x1 x2 x3 x4 S = some res) : W p l e (headSpec wsX6_ahead rmX6_ahead).room s m args below meth c H locs 0 0 (MQ below (va_Qi (fun a (u : teS) => a = res.1 ∧ u = res.2) (fun u t => teR D cy ad ba O u t.heap) (teA ba)) args s 0 0 (teA ba)) (F0 m 0 ls []) := by
  have hx := X.1
  have hb := X.2.1
  have hown := X.2.2.2.2.1
  unfold fX6_ahead at hf
  refine lv_aload_n hx hb dX6_ahead_0 rfl (lv_at hl 0 rfl) ?_
  refine lv_aload_n hx hb dX6_ahead_1 rfl (lv_at hl 0 rfl) ?_
  refine rg_6_5 X hR iX6_ahead_6 wX6_ahead_16 dX6_ahead_2 ?_
  refine lv_iload_n hx hb dX6_ahead_5 rfl (lv_at hl 1 rfl) ?_
  obtain ⟨r_1, hq_2, hf⟩ := bd1_some hf
  refine kSi (As := [.ref (ad 372), .int x1]) (rest := [.ref (ad 369)]) X hR hS (zcX6_isMember l D cy ad ba O S 372 x1 rfl _ hq_2) (va_cwS 2 X.2.2.2.2.2.1 gX6_ahead_X6_isMember rfl rfl rfl kdX6_isMember.2 ⟨(Nat.le_of_ble_eq_true rfl), (Nat.le_of_ble_eq_true rfl)⟩)  rfl rfl hl.1 (Nat.le_of_ble_eq_true rfl) ⟨(Nat.le_of_ble_eq_true rfl), (Nat.le_of_ble_eq_true rfl)⟩ dX6_ahead_6 (fun H locs hR hS => ?_)
  refine lv_if_ne (tgt := 16) hx hb dX6_ahead_9 (by decide) (fun c_3 => ?_) (fun c_3 => ?_)
  · replace hf := ite_f c_3 hf
    refine lv_iload_n hx hb dX6_ahead_16 rfl (lv_at hl 2 rfl) ?_
    refine lv_i2l hx hb dX6_ahead_17 rfl ?_
    refine lv_lconst (v := (0 : Int64)) hx hb dX6_ahead_18 (by decide) ?_
    refine lv_ldc2 (v := (60 : Int64)) hx hb hown (X.2.2.2.2.2.1 _ wX6_ahead_199) dX6_ahead_19 ?_
    obtain ⟨r_4, hq_5, hf⟩ := bd1_some hf
    refine kSi (As := [.long (x2).toInt64, .long (0 : Int64), .long (60 : Int64)]) (rest := [.ref (ad 369)]) X hR hS (zcX6_in l D cy ad ba O S ((x2).toInt64) (0 : Int64) (60 : Int64) _ hq_5) (va_cwS 3 X.2.2.2.2.2.1 gX6_ahead_X6_in rfl rfl rfl kdX6_in.2 ⟨(Nat.le_of_ble_eq_true rfl), (Nat.le_of_ble_eq_true rfl)⟩)  rfl rfl hl.1 (Nat.le_of_ble_eq_true rfl) ⟨(Nat.le_of_ble_eq_true rfl), (Nat.le_of_ble_eq_true rfl)⟩ dX6_ahead_22 (fun H locs hR hS => ?_)
    refine lv_if_eq (tgt := 48) hx hb dX6_ahead_25 (by decide) (fun c_6 => ?_) (fun c_6 => ?_)
    · replace hf := ite_t c_6 hf
      refine lv_iconst (v := (2 : Int32)) hx hb dX6_ahead_48 (by decide) ?_
      refine lv_goto (tgt := 53) hx hb dX6_ahead_49 (by decide) ?_
      exact bX6_ahead_53 (S := S) (x1 := x1) (x2 := x2) (x3 := x3) (x4 := x4) X S ((2 : Int32)) _ _ _ hR hS (lv_sub hl [0, 1, 2, 3, 4] rfl) hf
    · replace hf := ite_f c_6 hf
      refine lv_iload_n hx hb dX6_ahead_28 rfl (lv_at hl 3 rfl) ?_
      obtain ⟨r_7, hq_8, hf⟩ := bd1_some hf
      refine kSi (As := [.int x3]) (rest := [.ref (ad 369)]) X hR hS (zcX6_isAbsent l D cy ad ba O S x3 _ hq_8) (va_cwS 1 X.2.2.2.2.2.1 gX6_ahead_X6_isAbsent rfl rfl rfl kdX6_isAbsent.2 ⟨(Nat.le_of_ble_eq_true rfl), (Nat.le_of_ble_eq_true rfl)⟩)  rfl rfl hl.1 (Nat.le_of_ble_eq_true rfl) ⟨(Nat.le_of_ble_eq_true rfl), (Nat.le_of_ble_eq_true rfl)⟩ dX6_ahead_29 (fun H locs hR hS => ?_)
      refine lv_if_eq (tgt := 48) hx hb dX6_ahead_32 (by decide) (fun c_9 => ?_) (fun c_9 => ?_)
      · replace hf := ite_t c_9 hf
        refine lv_iconst (v := (2 : Int32)) hx hb dX6_ahead_48 (by decide) ?_
        refine lv_goto (tgt := 53) hx hb dX6_ahead_49 (by decide) ?_
        exact bX6_ahead_53 (S := S) (x1 := x1) (x2 := x2) (x3 := x3) (x4 := x4) X S ((2 : Int32)) _ _ _ hR hS (lv_sub hl [0, 1, 2, 3, 4] rfl) hf
      · replace hf := ite_f c_9 hf
        refine lv_iload hx hb dX6_ahead_35 (lv_at hl 4 rfl) ?_
        refine lv_i2l hx hb dX6_ahead_37 rfl ?_
        refine lv_lconst (v := (0 : Int64)) hx hb dX6_ahead_38 (by decide) ?_
        refine lv_ldc2 (v := (10 : Int64)) hx hb hown (X.2.2.2.2.2.1 _ wX6_ahead_150) dX6_ahead_39 ?_
        obtain ⟨r_10, hq_11, hf⟩ := bd1_some hf
        refine kSi (As := [.long (x4).toInt64, .long (0 : Int64), .long (10 : Int64)]) (rest := [.ref (ad 369)]) X hR hS (zcX6_in l D cy ad ba O S ((x4).toInt64) (0 : Int64) (10 : Int64) _ hq_11) (va_cwS 3 X.2.2.2.2.2.1 gX6_ahead_X6_in rfl rfl rfl kdX6_in.2 ⟨(Nat.le_of_ble_eq_true rfl), (Nat.le_of_ble_eq_true rfl)⟩)  rfl rfl hl.1 (Nat.le_of_ble_eq_true rfl) ⟨(Nat.le_of_ble_eq_true rfl), (Nat.le_of_ble_eq_true rfl)⟩ dX6_ahead_42 (fun H locs hR hS => ?_)
        refine lv_if_ne (tgt := 52) hx hb dX6_ahead_45 (by decide) (fun c_12 => ?_) (fun c_12 => ?_)
        · replace hf := ite_f c_12 hf
          refine lv_iconst (v := (0 : Int32)) hx hb dX6_ahead_52 (by decide) ?_
          exact bX6_ahead_53 (S := S) (x1 := x1) (x2 := x2) (x3 := x3) (x4 := x4) X S ((0 : Int32)) _ _ _ hR hS (lv_sub hl [0, 1, 2, 3, 4] rfl) hf
        · replace hf := ite_t c_12 hf
          refine lv_iconst (v := (2 : Int32)) hx hb dX6_ahead_48 (by decide) ?_
          refine lv_goto (tgt := 53) hx hb dX6_ahead_49 (by decide) ?_
          exact bX6_ahead_53 (S := S) (x1 := x1) (x2 := x2) (x3 := x3) (x4 := x4) X S ((2 : Int32)) _ _ _ hR hS (lv_sub hl [0, 1, 2, 3, 4] rfl) hf
  · replace hf := ite_t c_3 hf
    refine lv_iconst (v := (1 : Int32)) hx hb dX6_ahead_12 (by decide) ?_
    refine lv_goto (tgt := 53) hx hb dX6_ahead_13 (by decide) ?_
    exact bX6_ahead_53 (S := S) (x1 := x1) (x2 := x2) (x3 := x3) (x4 := x4) X S ((1 : Int32)) _ _ _ hR hS (lv_sub hl [0, 1, 2, 3, 4] rfl) hf
theorem zcX6_ahead (l : Launch) (D : va_G) (cy : Nat → ClassId) (ad : Nat → Nat) (ba : Nat) (O : Int64) (S : teS) (x1 : Int32) (x2 : Int32) (x3 : Int32) (x4 : Int32) (r : Int32) (S1 : teS) (hf : fX6_ahead x1 x2 x3 x4 S = some (r, S1)) : cI l yX6_ahead wsX6_ahead rmX6_ahead D cy ad ba O S [.ref (ad 369), .int x1, .int x2, .int x3, .int x4] r S1 :=
  te_of (by decide) rfl (Nat.le_of_ble_eq_true rfl) (fun p e s m below meth c ls X hR hS hl => bX6_ahead_0 (res := (r, S1)) (S := S) (x1 := x1) (x2 := x2) (x3 := x3) (x4 := x4) X _ _ _ hR hS hl hf)
abbrev rmX6_levelAfter : Room := { frames := 5, cells := 0, slots := 0, locals := 115 }
theorem kdX6_levelAfter : yX6_levelAfter.cls = RX6 ∧ yX6_levelAfter.cls ≠ "java/lang/invoke/MethodHandle" ∧ yX6_levelAfter.cls ≠ "java/lang/invoke/VarHandle" ∧ (parseMethodDescriptor yX6_levelAfter.desc).map (fun d => d.parameters.length) = some 2 := by decide +kernel
theorem wX6_levelAfter_16 : Cond.fieldLink RX6 16 "TandemExchangeModel" "now" "[I" ∈ wsX6_levelAfter := by decide +kernel
theorem iX6_levelAfter_6 : ∀ w ∈ wsX60, w ∈ wsX6_levelAfter := by decide +kernel
theorem wX6_levelAfter_201 : Cond.constantLong RX6 201 (9) ∈ wsX6_levelAfter := by decide +kernel
theorem wX6_levelAfter_19 : Cond.fieldLink RX6 19 "TandemExchangeModel" "trial" "[I" ∈ wsX6_levelAfter := by decide +kernel
set_option maxRecDepth 100000 in
set_option maxHeartbeats 4000000 in
theorem bX6_levelAfter_56 {p : Program} {l : Launch} {e : Env} {s : State} {m : MethodId} {args : Array Value} {below : List Frame} {meth : Method} {c : Code} {D : va_G} {cy : Nat → ClassId} {ad : Nat → Nat} {ba : Nat} {O : Int64} {S : teS}  {x1 : Int32} {x2 : Int32} {res : (Int32 × teS)} (X : teC wsX6_levelAfter RX6 cX6_levelAfter 4 (some .int) D cy ba p s m args meth c) : ∀ (n : Nat), ∀ (S1 : teS) (v3 : Int32) (H : Heap) (locs : List Loc) (ls : Array Slot), teR D cy ad ba O S1 H → va_S (teA ba) s.heap H locs → lv_has ls 4 [(0, .ref (ad 369)), (1, .int x1), (2, .int x2), (3, .int v3)] → fX6_levelAfter_56 x1 x2 n S1 v3 = some res → W p l e (headSpec wsX6_levelAfter rmX6_levelAfter).room s m args below meth c H locs 0 0 (MQ below (va_Qi (fun a (u : teS) => a = res.1 ∧ u = res.2) (fun u t => teR D cy ad ba O u t.heap) (teA ba)) args s 0 0 (teA ba)) (F0 m 56 ls []) := by
  have hx := X.1
  have hb := X.2.1
  have hown := X.2.2.2.2.1
  intro n
  induction n with
  | zero =>
    intro S1 v3 H locs ls hR hS hl hf
    exact nomatch hf
  | succ n ih =>
    intro S1 v3 H locs ls hR hS hl hf
    unfold fX6_levelAfter_56 at hf
    refine lv_iload_n hx hb dX6_levelAfter_56 rfl (lv_at hl 3 rfl) ?_
    refine lv_bipush (v := (100 : Int32)) hx hb dX6_levelAfter_57 (by decide) ?_
    refine lv_icmp_gt (tgt := 111) hx hb dX6_levelAfter_59 (by decide) (fun c_12 => ?_) (fun c_12 => ?_)
    · replace hf := ite_t c_12 hf
      refine lv_sipush (v := (-9999 : Int32)) hx hb dX6_levelAfter_111 (by decide) ?_
      exact eI X hR hS (congrArg Prod.fst (Option.some.inj hf)) (congrArg Prod.snd (Option.some.inj hf)) dX6_levelAfter_114
    · replace hf := ite_f c_12 hf
      refine lv_aload_n hx hb dX6_levelAfter_62 rfl (lv_at hl 0 rfl) ?_
      refine rg_6_6 X hR iX6_levelAfter_6 wX6_levelAfter_19 dX6_levelAfter_63 ?_
      refine lv_iload_n hx hb dX6_levelAfter_66 rfl (lv_at hl 1 rfl) ?_
      obtain ⟨r_13, hq_14, hf⟩ := bd1_some hf
      refine kSi (As := [.int x1]) (rest := [.ref (ad 373)]) X hR hS (zcX6_at l D cy ad ba O S1 x1 _ hq_14) (va_cwS 1 X.2.2.2.2.2.1 gX6_levelAfter_X6_at rfl rfl rfl kdX6_at.2 ⟨(Nat.le_of_ble_eq_true rfl), (Nat.le_of_ble_eq_true rfl)⟩)  rfl rfl hl.1 (Nat.le_of_ble_eq_true rfl) ⟨(Nat.le_of_ble_eq_true rfl), (Nat.le_of_ble_eq_true rfl)⟩ dX6_levelAfter_67 (fun H locs hR hS => ?_)
      refine lv_aload_n hx hb dX6_levelAfter_70 rfl (lv_at hl 0 rfl) ?_
      refine rg_6_6 X hR iX6_levelAfter_6 wX6_levelAfter_19 dX6_levelAfter_71 ?_
      refine lv_iload_n hx hb dX6_levelAfter_74 rfl (lv_at hl 1 rfl) ?_
      obtain ⟨r_15, hq_16, hf⟩ := bd1_some hf
      refine kSi (As := [.int x1]) (rest := [.ref (ad 373), .int r_13, .ref (ad 373)]) X hR hS (zcX6_at l D cy ad ba O S1 x1 _ hq_16) (va_cwS 1 X.2.2.2.2.2.1 gX6_levelAfter_X6_at rfl rfl rfl kdX6_at.2 ⟨(Nat.le_of_ble_eq_true rfl), (Nat.le_of_ble_eq_true rfl)⟩)  rfl rfl hl.1 (Nat.le_of_ble_eq_true rfl) ⟨(Nat.le_of_ble_eq_true rfl), (Nat.le_of_ble_eq_true rfl)⟩ dX6_levelAfter_75 (fun H locs hR hS => ?_)
      refine lv_iconst (v := (4 : Int32)) hx hb dX6_levelAfter_78 (by decide) ?_
      refine lv_iadd hx hb dX6_levelAfter_79 ?_
      obtain ⟨h_17, hf⟩ := chk_some hf
      refine ra_int X hR (r := 373) rfl h_17 dX6_levelAfter_80 ?_
      refine lv_iadd hx hb dX6_levelAfter_81 ?_
      obtain ⟨h_18, hf⟩ := chk_some hf
      refine ra_int X hR (r := 373) rfl h_18 dX6_levelAfter_82 ?_
      refine lv_iload_n hx hb dX6_levelAfter_83 rfl (lv_at hl 2 rfl) ?_
      refine lv_icmp_lt (tgt := 89) hx hb dX6_levelAfter_84 (by decide) (fun c_19 => ?_) (fun c_19 => ?_)
      · replace hf := ite_t c_19 hf
        refine lv_aload_n hx hb dX6_levelAfter_89 rfl (lv_at hl 0 rfl) ?_
        refine rg_6_6 X hR iX6_levelAfter_6 wX6_levelAfter_19 dX6_levelAfter_90 ?_
        obtain ⟨r_20, S2, hq_21, hf⟩ := bd2_some hf
        refine kSi (As := [.ref (ad 373)]) (rest := []) X hR hS (zcX6_matchOn l D cy ad ba O S1 373 rfl _ _ hq_21) (va_cwS 1 X.2.2.2.2.2.1 gX6_levelAfter_X6_matchOn rfl rfl rfl kdX6_matchOn.2 ⟨(Nat.le_of_ble_eq_true rfl), (Nat.le_of_ble_eq_true rfl)⟩)  rfl rfl hl.1 (Nat.le_of_ble_eq_true rfl) ⟨(Nat.le_of_ble_eq_true rfl), (Nat.le_of_ble_eq_true rfl)⟩ dX6_levelAfter_93 (fun H locs hR hS => ?_)
        refine lv_pop hx hb dX6_levelAfter_96 rfl ?_
        refine lv_aload_n hx hb dX6_levelAfter_97 rfl (lv_at hl 0 rfl) ?_
        refine rg_6_6 X hR iX6_levelAfter_6 wX6_levelAfter_19 dX6_levelAfter_98 ?_
        refine lv_iconst (v := (0 : Int32)) hx hb dX6_levelAfter_101 (by decide) ?_
        obtain ⟨S3, hq_23, hf⟩ := bd1_some hf
        refine kSv (As := [.ref (ad 373), .int (0 : Int32)]) (rest := []) X hR hS (zcX6_weekOn l D cy ad ba O S2 373 (0 : Int32) rfl _ hq_23) (va_cwS 2 X.2.2.2.2.2.1 gX6_levelAfter_X6_weekOn rfl rfl rfl kdX6_weekOn.2 ⟨(Nat.le_of_ble_eq_true rfl), (Nat.le_of_ble_eq_true rfl)⟩)  rfl rfl hl.1 (Nat.le_of_ble_eq_true rfl) ⟨(Nat.le_of_ble_eq_true rfl), (Nat.le_of_ble_eq_true rfl)⟩ dX6_levelAfter_102 (fun H locs hR hS => ?_)
        refine lv_iinc (v := (v3 + (1 : Int32))) (lv' := [(3, .int (v3 + (1 : Int32))), (0, .ref (ad 369)), (1, .int x1), (2, .int x2)]) hx hb dX6_levelAfter_105 hl (k := 3) rfl rfl (by decide) rfl (fun ls hl => ?_)
        refine lv_goto (tgt := 56) hx hb dX6_levelAfter_108 (by decide) ?_
        exact ih S3 ((v3 + (1 : Int32))) _ _ _ hR hS (lv_sub hl [1, 2, 3, 0] rfl) hf
      · replace hf := ite_f c_19 hf
        refine lv_iload_n hx hb dX6_levelAfter_87 rfl (lv_at hl 3 rfl) ?_
        exact eI X hR hS (congrArg Prod.fst (Option.some.inj hf)) (congrArg Prod.snd (Option.some.inj hf)) dX6_levelAfter_88
set_option maxRecDepth 100000 in
set_option maxHeartbeats 4000000 in
theorem bX6_levelAfter_33 {p : Program} {l : Launch} {e : Env} {s : State} {m : MethodId} {args : Array Value} {below : List Frame} {meth : Method} {c : Code} {D : va_G} {cy : Nat → ClassId} {ad : Nat → Nat} {ba : Nat} {O : Int64} {S : teS}  {x1 : Int32} {x2 : Int32} {res : (Int32 × teS)} (X : teC wsX6_levelAfter RX6 cX6_levelAfter 4 (some .int) D cy ba p s m args meth c) : ∀ (S1 : teS) (y0 : Int32) (H : Heap) (locs : List Loc) (ls : Array Slot), teR D cy ad ba O S1 H → va_S (teA ba) s.heap H locs → lv_has ls 4 [(0, .ref (ad 369)), (1, .int x1), (2, .int x2)] → fX6_levelAfter_33 x1 x2 S1 y0 = some res → W p l e (headSpec wsX6_levelAfter rmX6_levelAfter).room s m args below meth c H locs 0 0 (MQ below (va_Qi (fun a (u : teS) => a = res.1 ∧ u = res.2) (fun u t => teR D cy ad ba O u t.heap) (teA ba)) args s 0 0 (teA ba)) (F0 m 33 ls [.int y0, .ref (ad 369)]) := by
  have hx := X.1
  have hb := X.2.1
  have hown := X.2.2.2.2.1
  intro S1 y0 H locs ls hR hS hl hf
  unfold fX6_levelAfter_33 at hf
  obtain ⟨r_7, S2, hq_8, hf⟩ := bd2_some hf
  refine kVi (id := 369) (As := [.int y0]) (rest := []) X hR hS (zcX6_refused l D cy ad ba O S1 y0 _ _ hq_8) (cwV 1 X.2.2.2.2.2.1 gX6_levelAfter_X6_refused rfl rfl rfl kdX6_refused ⟨(Nat.le_of_ble_eq_true rfl), (Nat.le_of_ble_eq_true rfl)⟩) (by decide) rfl rfl rfl rfl hl.1 (Nat.le_of_ble_eq_true rfl) ⟨(Nat.le_of_ble_eq_true rfl), (Nat.le_of_ble_eq_true rfl)⟩ dX6_levelAfter_33 (fun H locs hR hS => ?_)
  refine lv_if_eq (tgt := 41) hx hb dX6_levelAfter_36 (by decide) (fun c_9 => ?_) (fun c_9 => ?_)
  · replace hf := ite_t c_9 hf
    refine lv_aload_n hx hb dX6_levelAfter_41 rfl (lv_at hl 0 rfl) ?_
    refine rg_6_5 X hR iX6_levelAfter_6 wX6_levelAfter_16 dX6_levelAfter_42 ?_
    refine lv_iconst (v := (0 : Int32)) hx hb dX6_levelAfter_45 (by decide) ?_
    refine lv_aload_n hx hb dX6_levelAfter_46 rfl (lv_at hl 0 rfl) ?_
    refine rg_6_6 X hR iX6_levelAfter_6 wX6_levelAfter_19 dX6_levelAfter_47 ?_
    refine lv_iconst (v := (0 : Int32)) hx hb dX6_levelAfter_50 (by decide) ?_
    obtain ⟨S3, hq_11, hf⟩ := bd1_some hf
    refine kSv (As := [.ref (ad 372), .int (0 : Int32), .ref (ad 373), .int (0 : Int32)]) (rest := []) X hR hS (zcX6_copyPage l D cy ad ba O S2 372 (0 : Int32) 373 (0 : Int32) rfl rfl _ hq_11) (va_cwS 4 X.2.2.2.2.2.1 gX6_levelAfter_X6_copyPage rfl rfl rfl kdX6_copyPage.2 ⟨(Nat.le_of_ble_eq_true rfl), (Nat.le_of_ble_eq_true rfl)⟩)  rfl rfl hl.1 (Nat.le_of_ble_eq_true rfl) ⟨(Nat.le_of_ble_eq_true rfl), (Nat.le_of_ble_eq_true rfl)⟩ dX6_levelAfter_51 (fun H locs hR hS => ?_)
    refine lv_iconst (v := (0 : Int32)) hx hb dX6_levelAfter_54 (by decide) ?_
    refine lv_istore_n (lv' := [(3, .int (0 : Int32)), (0, .ref (ad 369)), (1, .int x1), (2, .int x2)]) hx hb dX6_levelAfter_55 rfl hl (by decide) rfl (fun ls hl => ?_)
    exact bX6_levelAfter_56 (S := S) (x1 := x1) (x2 := x2) X 2000 S3 ((0 : Int32)) _ _ _ hR hS (lv_sub hl [1, 2, 3, 0] rfl) hf
  · replace hf := ite_f c_9 hf
    refine lv_iconst (v := (0 : Int32)) hx hb dX6_levelAfter_39 (by decide) ?_
    exact eI X hR hS (congrArg Prod.fst (Option.some.inj hf)) (congrArg Prod.snd (Option.some.inj hf)) dX6_levelAfter_40
set_option maxRecDepth 100000 in
set_option maxHeartbeats 4000000 in
theorem bX6_levelAfter_0 {p : Program} {l : Launch} {e : Env} {s : State} {m : MethodId} {args : Array Value} {below : List Frame} {meth : Method} {c : Code} {D : va_G} {cy : Nat → ClassId} {ad : Nat → Nat} {ba : Nat} {O : Int64} {S : teS}  {x1 : Int32} {x2 : Int32} {res : (Int32 × teS)} (X : teC wsX6_levelAfter RX6 cX6_levelAfter 4 (some .int) D cy ba p s m args meth c) (H : Heap) (locs : List Loc) (ls : Array Slot) (hR : teR D cy ad ba O S H) (hS : va_S (teA ba) s.heap H locs) (hl : lv_has ls 4 [(0, .ref (ad 369)), (1, .int x1), (2, .int x2)]) (hf : fX6_levelAfter x1 x2 S = some res) : W p l e (headSpec wsX6_levelAfter rmX6_levelAfter).room s m args below meth c H locs 0 0 (MQ below (va_Qi (fun a (u : teS) => a = res.1 ∧ u = res.2) (fun u t => teR D cy ad ba O u t.heap) (teA ba)) args s 0 0 (teA ba)) (F0 m 0 ls []) := by
  have hx := X.1
  have hb := X.2.1
  have hown := X.2.2.2.2.1
  unfold fX6_levelAfter at hf
  refine lv_aload_n hx hb dX6_levelAfter_0 rfl (lv_at hl 0 rfl) ?_
  refine lv_aload_n hx hb dX6_levelAfter_1 rfl (lv_at hl 0 rfl) ?_
  refine rg_6_5 X hR iX6_levelAfter_6 wX6_levelAfter_16 dX6_levelAfter_2 ?_
  refine lv_iload_n hx hb dX6_levelAfter_5 rfl (lv_at hl 1 rfl) ?_
  obtain ⟨r_1, hq_2, hf⟩ := bd1_some hf
  refine kSi (As := [.ref (ad 372), .int x1]) (rest := [.ref (ad 369)]) X hR hS (zcX6_isMember l D cy ad ba O S 372 x1 rfl _ hq_2) (va_cwS 2 X.2.2.2.2.2.1 gX6_levelAfter_X6_isMember rfl rfl rfl kdX6_isMember.2 ⟨(Nat.le_of_ble_eq_true rfl), (Nat.le_of_ble_eq_true rfl)⟩)  rfl rfl hl.1 (Nat.le_of_ble_eq_true rfl) ⟨(Nat.le_of_ble_eq_true rfl), (Nat.le_of_ble_eq_true rfl)⟩ dX6_levelAfter_6 (fun H locs hR hS => ?_)
  refine lv_if_ne (tgt := 16) hx hb dX6_levelAfter_9 (by decide) (fun c_3 => ?_) (fun c_3 => ?_)
  · replace hf := ite_f c_3 hf
    refine lv_iload_n hx hb dX6_levelAfter_16 rfl (lv_at hl 2 rfl) ?_
    refine lv_i2l hx hb dX6_levelAfter_17 rfl ?_
    refine lv_lconst (v := (0 : Int64)) hx hb dX6_levelAfter_18 (by decide) ?_
    refine lv_ldc2 (v := (9 : Int64)) hx hb hown (X.2.2.2.2.2.1 _ wX6_levelAfter_201) dX6_levelAfter_19 ?_
    obtain ⟨r_4, hq_5, hf⟩ := bd1_some hf
    refine kSi (As := [.long (x2).toInt64, .long (0 : Int64), .long (9 : Int64)]) (rest := [.ref (ad 369)]) X hR hS (zcX6_in l D cy ad ba O S ((x2).toInt64) (0 : Int64) (9 : Int64) _ hq_5) (va_cwS 3 X.2.2.2.2.2.1 gX6_levelAfter_X6_in rfl rfl rfl kdX6_in.2 ⟨(Nat.le_of_ble_eq_true rfl), (Nat.le_of_ble_eq_true rfl)⟩)  rfl rfl hl.1 (Nat.le_of_ble_eq_true rfl) ⟨(Nat.le_of_ble_eq_true rfl), (Nat.le_of_ble_eq_true rfl)⟩ dX6_levelAfter_22 (fun H locs hR hS => ?_)
    refine lv_if_ne (tgt := 32) hx hb dX6_levelAfter_25 (by decide) (fun c_6 => ?_) (fun c_6 => ?_)
    · replace hf := ite_f c_6 hf
      refine lv_iconst (v := (0 : Int32)) hx hb dX6_levelAfter_32 (by decide) ?_
      exact bX6_levelAfter_33 (S := S) (x1 := x1) (x2 := x2) X S ((0 : Int32)) _ _ _ hR hS (lv_sub hl [0, 1, 2] rfl) hf
    · replace hf := ite_t c_6 hf
      refine lv_iconst (v := (2 : Int32)) hx hb dX6_levelAfter_28 (by decide) ?_
      refine lv_goto (tgt := 33) hx hb dX6_levelAfter_29 (by decide) ?_
      exact bX6_levelAfter_33 (S := S) (x1 := x1) (x2 := x2) X S ((2 : Int32)) _ _ _ hR hS (lv_sub hl [0, 1, 2] rfl) hf
  · replace hf := ite_t c_3 hf
    refine lv_iconst (v := (1 : Int32)) hx hb dX6_levelAfter_12 (by decide) ?_
    refine lv_goto (tgt := 33) hx hb dX6_levelAfter_13 (by decide) ?_
    exact bX6_levelAfter_33 (S := S) (x1 := x1) (x2 := x2) X S ((1 : Int32)) _ _ _ hR hS (lv_sub hl [0, 1, 2] rfl) hf
theorem zcX6_levelAfter (l : Launch) (D : va_G) (cy : Nat → ClassId) (ad : Nat → Nat) (ba : Nat) (O : Int64) (S : teS) (x1 : Int32) (x2 : Int32) (r : Int32) (S1 : teS) (hf : fX6_levelAfter x1 x2 S = some (r, S1)) : cI l yX6_levelAfter wsX6_levelAfter rmX6_levelAfter D cy ad ba O S [.ref (ad 369), .int x1, .int x2] r S1 :=
  te_of (by decide) rfl (Nat.le_of_ble_eq_true rfl) (fun p e s m below meth c ls X hR hS hl => bX6_levelAfter_0 (res := (r, S1)) (S := S) (x1 := x1) (x2 := x2) X _ _ _ hR hS hl hf)
abbrev rmX6_partsAfter : Room := { frames := 5, cells := 0, slots := 0, locals := 115 }
theorem kdX6_partsAfter : yX6_partsAfter.cls = RX6 ∧ yX6_partsAfter.cls ≠ "java/lang/invoke/MethodHandle" ∧ yX6_partsAfter.cls ≠ "java/lang/invoke/VarHandle" ∧ (parseMethodDescriptor yX6_partsAfter.desc).map (fun d => d.parameters.length) = some 2 := by decide +kernel
theorem wX6_partsAfter_16 : Cond.fieldLink RX6 16 "TandemExchangeModel" "now" "[I" ∈ wsX6_partsAfter := by decide +kernel
theorem iX6_partsAfter_6 : ∀ w ∈ wsX60, w ∈ wsX6_partsAfter := by decide +kernel
theorem wX6_partsAfter_19 : Cond.fieldLink RX6 19 "TandemExchangeModel" "trial" "[I" ∈ wsX6_partsAfter := by decide +kernel
set_option maxRecDepth 100000 in
set_option maxHeartbeats 4000000 in
theorem bX6_partsAfter_66 {p : Program} {l : Launch} {e : Env} {s : State} {m : MethodId} {args : Array Value} {below : List Frame} {meth : Method} {c : Code} {D : va_G} {cy : Nat → ClassId} {ad : Nat → Nat} {ba : Nat} {O : Int64} {S : teS}  {x1 : Int32} {x2 : Int32} {res : (Int32 × teS)} (X : teC wsX6_partsAfter RX6 cX6_partsAfter 4 (some .int) D cy ba p s m args meth c) : ∀ (n : Nat), ∀ (S1 : teS) (v3 : Int32) (H : Heap) (locs : List Loc) (ls : Array Slot), teR D cy ad ba O S1 H → va_S (teA ba) s.heap H locs → lv_has ls 4 [(0, .ref (ad 369)), (1, .int x1), (2, .int x2), (3, .int v3)] → fX6_partsAfter_66 x1 x2 n S1 v3 = some res → W p l e (headSpec wsX6_partsAfter rmX6_partsAfter).room s m args below meth c H locs 0 0 (MQ below (va_Qi (fun a (u : teS) => a = res.1 ∧ u = res.2) (fun u t => teR D cy ad ba O u t.heap) (teA ba)) args s 0 0 (teA ba)) (F0 m 66 ls []) := by
  have hx := X.1
  have hb := X.2.1
  have hown := X.2.2.2.2.1
  intro n
  induction n with
  | zero =>
    intro S1 v3 H locs ls hR hS hl hf
    exact nomatch hf
  | succ n ih =>
    intro S1 v3 H locs ls hR hS hl hf
    unfold fX6_partsAfter_66 at hf
    refine lv_iload_n hx hb dX6_partsAfter_66 rfl (lv_at hl 3 rfl) ?_
    refine lv_bipush (v := (100 : Int32)) hx hb dX6_partsAfter_67 (by decide) ?_
    refine lv_icmp_gt (tgt := 99) hx hb dX6_partsAfter_69 (by decide) (fun c_15 => ?_) (fun c_15 => ?_)
    · replace hf := ite_t c_15 hf
      refine lv_sipush (v := (-9999 : Int32)) hx hb dX6_partsAfter_99 (by decide) ?_
      exact eI X hR hS (congrArg Prod.fst (Option.some.inj hf)) (congrArg Prod.snd (Option.some.inj hf)) dX6_partsAfter_102
    · replace hf := ite_f c_15 hf
      refine lv_aload_n hx hb dX6_partsAfter_72 rfl (lv_at hl 0 rfl) ?_
      refine rg_6_6 X hR iX6_partsAfter_6 wX6_partsAfter_19 dX6_partsAfter_73 ?_
      refine lv_iload_n hx hb dX6_partsAfter_76 rfl (lv_at hl 1 rfl) ?_
      obtain ⟨r_16, hq_17, hf⟩ := bd1_some hf
      refine kSi (As := [.ref (ad 373), .int x1]) (rest := []) X hR hS (zcX6_isFree l D cy ad ba O S1 373 x1 rfl _ hq_17) (va_cwS 2 X.2.2.2.2.2.1 gX6_partsAfter_X6_isFree rfl rfl rfl kdX6_isFree.2 ⟨(Nat.le_of_ble_eq_true rfl), (Nat.le_of_ble_eq_true rfl)⟩)  rfl rfl hl.1 (Nat.le_of_ble_eq_true rfl) ⟨(Nat.le_of_ble_eq_true rfl), (Nat.le_of_ble_eq_true rfl)⟩ dX6_partsAfter_77 (fun H locs hR hS => ?_)
      refine lv_if_eq (tgt := 85) hx hb dX6_partsAfter_80 (by decide) (fun c_18 => ?_) (fun c_18 => ?_)
      · replace hf := ite_t c_18 hf
        refine lv_aload_n hx hb dX6_partsAfter_85 rfl (lv_at hl 0 rfl) ?_
        refine rg_6_6 X hR iX6_partsAfter_6 wX6_partsAfter_19 dX6_partsAfter_86 ?_
        refine lv_iload_n hx hb dX6_partsAfter_89 rfl (lv_at hl 2 rfl) ?_
        obtain ⟨S2, hq_20, hf⟩ := bd1_some hf
        refine kSv (As := [.ref (ad 373), .int x2]) (rest := []) X hR hS (zcX6_weekOn l D cy ad ba O S1 373 x2 rfl _ hq_20) (va_cwS 2 X.2.2.2.2.2.1 gX6_partsAfter_X6_weekOn rfl rfl rfl kdX6_weekOn.2 ⟨(Nat.le_of_ble_eq_true rfl), (Nat.le_of_ble_eq_true rfl)⟩)  rfl rfl hl.1 (Nat.le_of_ble_eq_true rfl) ⟨(Nat.le_of_ble_eq_true rfl), (Nat.le_of_ble_eq_true rfl)⟩ dX6_partsAfter_90 (fun H locs hR hS => ?_)
        refine lv_iinc (v := (v3 + (1 : Int32))) (lv' := [(3, .int (v3 + (1 : Int32))), (0, .ref (ad 369)), (1, .int x1), (2, .int x2)]) hx hb dX6_partsAfter_93 hl (k := 3) rfl rfl (by decide) rfl (fun ls hl => ?_)
        refine lv_goto (tgt := 66) hx hb dX6_partsAfter_96 (by decide) ?_
        exact ih S2 ((v3 + (1 : Int32))) _ _ _ hR hS (lv_sub hl [1, 2, 3, 0] rfl) hf
      · replace hf := ite_f c_18 hf
        refine lv_iload_n hx hb dX6_partsAfter_83 rfl (lv_at hl 3 rfl) ?_
        exact eI X hR hS (congrArg Prod.fst (Option.some.inj hf)) (congrArg Prod.snd (Option.some.inj hf)) dX6_partsAfter_84
set_option maxRecDepth 100000 in
set_option maxHeartbeats 4000000 in
theorem bX6_partsAfter_43 {p : Program} {l : Launch} {e : Env} {s : State} {m : MethodId} {args : Array Value} {below : List Frame} {meth : Method} {c : Code} {D : va_G} {cy : Nat → ClassId} {ad : Nat → Nat} {ba : Nat} {O : Int64} {S : teS}  {x1 : Int32} {x2 : Int32} {res : (Int32 × teS)} (X : teC wsX6_partsAfter RX6 cX6_partsAfter 4 (some .int) D cy ba p s m args meth c) : ∀ (S1 : teS) (y0 : Int32) (H : Heap) (locs : List Loc) (ls : Array Slot), teR D cy ad ba O S1 H → va_S (teA ba) s.heap H locs → lv_has ls 4 [(0, .ref (ad 369)), (1, .int x1), (2, .int x2)] → fX6_partsAfter_43 x1 x2 S1 y0 = some res → W p l e (headSpec wsX6_partsAfter rmX6_partsAfter).room s m args below meth c H locs 0 0 (MQ below (va_Qi (fun a (u : teS) => a = res.1 ∧ u = res.2) (fun u t => teR D cy ad ba O u t.heap) (teA ba)) args s 0 0 (teA ba)) (F0 m 43 ls [.int y0, .ref (ad 369)]) := by
  have hx := X.1
  have hb := X.2.1
  have hown := X.2.2.2.2.1
  intro S1 y0 H locs ls hR hS hl hf
  unfold fX6_partsAfter_43 at hf
  obtain ⟨r_10, S2, hq_11, hf⟩ := bd2_some hf
  refine kVi (id := 369) (As := [.int y0]) (rest := []) X hR hS (zcX6_refused l D cy ad ba O S1 y0 _ _ hq_11) (cwV 1 X.2.2.2.2.2.1 gX6_partsAfter_X6_refused rfl rfl rfl kdX6_refused ⟨(Nat.le_of_ble_eq_true rfl), (Nat.le_of_ble_eq_true rfl)⟩) (by decide) rfl rfl rfl rfl hl.1 (Nat.le_of_ble_eq_true rfl) ⟨(Nat.le_of_ble_eq_true rfl), (Nat.le_of_ble_eq_true rfl)⟩ dX6_partsAfter_43 (fun H locs hR hS => ?_)
  refine lv_if_eq (tgt := 51) hx hb dX6_partsAfter_46 (by decide) (fun c_12 => ?_) (fun c_12 => ?_)
  · replace hf := ite_t c_12 hf
    refine lv_aload_n hx hb dX6_partsAfter_51 rfl (lv_at hl 0 rfl) ?_
    refine rg_6_5 X hR iX6_partsAfter_6 wX6_partsAfter_16 dX6_partsAfter_52 ?_
    refine lv_iconst (v := (0 : Int32)) hx hb dX6_partsAfter_55 (by decide) ?_
    refine lv_aload_n hx hb dX6_partsAfter_56 rfl (lv_at hl 0 rfl) ?_
    refine rg_6_6 X hR iX6_partsAfter_6 wX6_partsAfter_19 dX6_partsAfter_57 ?_
    refine lv_iconst (v := (0 : Int32)) hx hb dX6_partsAfter_60 (by decide) ?_
    obtain ⟨S3, hq_14, hf⟩ := bd1_some hf
    refine kSv (As := [.ref (ad 372), .int (0 : Int32), .ref (ad 373), .int (0 : Int32)]) (rest := []) X hR hS (zcX6_copyPage l D cy ad ba O S2 372 (0 : Int32) 373 (0 : Int32) rfl rfl _ hq_14) (va_cwS 4 X.2.2.2.2.2.1 gX6_partsAfter_X6_copyPage rfl rfl rfl kdX6_copyPage.2 ⟨(Nat.le_of_ble_eq_true rfl), (Nat.le_of_ble_eq_true rfl)⟩)  rfl rfl hl.1 (Nat.le_of_ble_eq_true rfl) ⟨(Nat.le_of_ble_eq_true rfl), (Nat.le_of_ble_eq_true rfl)⟩ dX6_partsAfter_61 (fun H locs hR hS => ?_)
    refine lv_iconst (v := (0 : Int32)) hx hb dX6_partsAfter_64 (by decide) ?_
    refine lv_istore_n (lv' := [(3, .int (0 : Int32)), (0, .ref (ad 369)), (1, .int x1), (2, .int x2)]) hx hb dX6_partsAfter_65 rfl hl (by decide) rfl (fun ls hl => ?_)
    exact bX6_partsAfter_66 (S := S) (x1 := x1) (x2 := x2) X 2000 S3 ((0 : Int32)) _ _ _ hR hS (lv_sub hl [1, 2, 3, 0] rfl) hf
  · replace hf := ite_f c_12 hf
    refine lv_iconst (v := (0 : Int32)) hx hb dX6_partsAfter_49 (by decide) ?_
    exact eI X hR hS (congrArg Prod.fst (Option.some.inj hf)) (congrArg Prod.snd (Option.some.inj hf)) dX6_partsAfter_50
set_option maxRecDepth 100000 in
set_option maxHeartbeats 4000000 in
theorem bX6_partsAfter_0 {p : Program} {l : Launch} {e : Env} {s : State} {m : MethodId} {args : Array Value} {below : List Frame} {meth : Method} {c : Code} {D : va_G} {cy : Nat → ClassId} {ad : Nat → Nat} {ba : Nat} {O : Int64} {S : teS}  {x1 : Int32} {x2 : Int32} {res : (Int32 × teS)} (X : teC wsX6_partsAfter RX6 cX6_partsAfter 4 (some .int) D cy ba p s m args meth c) (H : Heap) (locs : List Loc) (ls : Array Slot) (hR : teR D cy ad ba O S H) (hS : va_S (teA ba) s.heap H locs) (hl : lv_has ls 4 [(0, .ref (ad 369)), (1, .int x1), (2, .int x2)]) (hf : fX6_partsAfter x1 x2 S = some res) : W p l e (headSpec wsX6_partsAfter rmX6_partsAfter).room s m args below meth c H locs 0 0 (MQ below (va_Qi (fun a (u : teS) => a = res.1 ∧ u = res.2) (fun u t => teR D cy ad ba O u t.heap) (teA ba)) args s 0 0 (teA ba)) (F0 m 0 ls []) := by
  have hx := X.1
  have hb := X.2.1
  have hown := X.2.2.2.2.1
  unfold fX6_partsAfter at hf
  refine lv_aload_n hx hb dX6_partsAfter_0 rfl (lv_at hl 0 rfl) ?_
  refine lv_aload_n hx hb dX6_partsAfter_1 rfl (lv_at hl 0 rfl) ?_
  refine rg_6_5 X hR iX6_partsAfter_6 wX6_partsAfter_16 dX6_partsAfter_2 ?_
  refine lv_iload_n hx hb dX6_partsAfter_5 rfl (lv_at hl 1 rfl) ?_
  obtain ⟨r_1, hq_2, hf⟩ := bd1_some hf
  refine kSi (As := [.ref (ad 372), .int x1]) (rest := [.ref (ad 369)]) X hR hS (zcX6_isMember l D cy ad ba O S 372 x1 rfl _ hq_2) (va_cwS 2 X.2.2.2.2.2.1 gX6_partsAfter_X6_isMember rfl rfl rfl kdX6_isMember.2 ⟨(Nat.le_of_ble_eq_true rfl), (Nat.le_of_ble_eq_true rfl)⟩)  rfl rfl hl.1 (Nat.le_of_ble_eq_true rfl) ⟨(Nat.le_of_ble_eq_true rfl), (Nat.le_of_ble_eq_true rfl)⟩ dX6_partsAfter_6 (fun H locs hR hS => ?_)
  refine lv_if_ne (tgt := 16) hx hb dX6_partsAfter_9 (by decide) (fun c_3 => ?_) (fun c_3 => ?_)
  · replace hf := ite_f c_3 hf
    refine lv_iload_n hx hb dX6_partsAfter_16 rfl (lv_at hl 2 rfl) ?_
    obtain ⟨r_4, hq_5, hf⟩ := bd1_some hf
    refine kSi (As := [.int x2]) (rest := [.ref (ad 369)]) X hR hS (zcX6_isAbsent l D cy ad ba O S x2 _ hq_5) (va_cwS 1 X.2.2.2.2.2.1 gX6_partsAfter_X6_isAbsent rfl rfl rfl kdX6_isAbsent.2 ⟨(Nat.le_of_ble_eq_true rfl), (Nat.le_of_ble_eq_true rfl)⟩)  rfl rfl hl.1 (Nat.le_of_ble_eq_true rfl) ⟨(Nat.le_of_ble_eq_true rfl), (Nat.le_of_ble_eq_true rfl)⟩ dX6_partsAfter_17 (fun H locs hR hS => ?_)
    refine lv_if_ne (tgt := 27) hx hb dX6_partsAfter_20 (by decide) (fun c_6 => ?_) (fun c_6 => ?_)
    · replace hf := ite_f c_6 hf
      refine lv_aload_n hx hb dX6_partsAfter_27 rfl (lv_at hl 0 rfl) ?_
      refine rg_6_5 X hR iX6_partsAfter_6 wX6_partsAfter_16 dX6_partsAfter_28 ?_
      refine lv_iload_n hx hb dX6_partsAfter_31 rfl (lv_at hl 1 rfl) ?_
      obtain ⟨r_7, hq_8, hf⟩ := bd1_some hf
      refine kSi (As := [.ref (ad 372), .int x1]) (rest := [.ref (ad 369)]) X hR hS (zcX6_isFree l D cy ad ba O S 372 x1 rfl _ hq_8) (va_cwS 2 X.2.2.2.2.2.1 gX6_partsAfter_X6_isFree rfl rfl rfl kdX6_isFree.2 ⟨(Nat.le_of_ble_eq_true rfl), (Nat.le_of_ble_eq_true rfl)⟩)  rfl rfl hl.1 (Nat.le_of_ble_eq_true rfl) ⟨(Nat.le_of_ble_eq_true rfl), (Nat.le_of_ble_eq_true rfl)⟩ dX6_partsAfter_32 (fun H locs hR hS => ?_)
      refine lv_if_eq (tgt := 42) hx hb dX6_partsAfter_35 (by decide) (fun c_9 => ?_) (fun c_9 => ?_)
      · replace hf := ite_t c_9 hf
        refine lv_iconst (v := (0 : Int32)) hx hb dX6_partsAfter_42 (by decide) ?_
        exact bX6_partsAfter_43 (S := S) (x1 := x1) (x2 := x2) X S ((0 : Int32)) _ _ _ hR hS (lv_sub hl [0, 1, 2] rfl) hf
      · replace hf := ite_f c_9 hf
        refine lv_iconst (v := (3 : Int32)) hx hb dX6_partsAfter_38 (by decide) ?_
        refine lv_goto (tgt := 43) hx hb dX6_partsAfter_39 (by decide) ?_
        exact bX6_partsAfter_43 (S := S) (x1 := x1) (x2 := x2) X S ((3 : Int32)) _ _ _ hR hS (lv_sub hl [0, 1, 2] rfl) hf
    · replace hf := ite_t c_6 hf
      refine lv_iconst (v := (2 : Int32)) hx hb dX6_partsAfter_23 (by decide) ?_
      refine lv_goto (tgt := 43) hx hb dX6_partsAfter_24 (by decide) ?_
      exact bX6_partsAfter_43 (S := S) (x1 := x1) (x2 := x2) X S ((2 : Int32)) _ _ _ hR hS (lv_sub hl [0, 1, 2] rfl) hf
  · replace hf := ite_t c_3 hf
    refine lv_iconst (v := (1 : Int32)) hx hb dX6_partsAfter_12 (by decide) ?_
    refine lv_goto (tgt := 43) hx hb dX6_partsAfter_13 (by decide) ?_
    exact bX6_partsAfter_43 (S := S) (x1 := x1) (x2 := x2) X S ((1 : Int32)) _ _ _ hR hS (lv_sub hl [0, 1, 2] rfl) hf
theorem zcX6_partsAfter (l : Launch) (D : va_G) (cy : Nat → ClassId) (ad : Nat → Nat) (ba : Nat) (O : Int64) (S : teS) (x1 : Int32) (x2 : Int32) (r : Int32) (S1 : teS) (hf : fX6_partsAfter x1 x2 S = some (r, S1)) : cI l yX6_partsAfter wsX6_partsAfter rmX6_partsAfter D cy ad ba O S [.ref (ad 369), .int x1, .int x2] r S1 :=
  te_of (by decide) rfl (Nat.le_of_ble_eq_true rfl) (fun p e s m below meth c ls X hR hS hl => bX6_partsAfter_0 (res := (r, S1)) (S := S) (x1 := x1) (x2 := x2) X _ _ _ hR hS hl hf)
abbrev rmX6_does : Room := { frames := 7, cells := 0, slots := 0, locals := 156 }
theorem kdX6_does : yX6_does.cls = RX6 ∧ yX6_does.cls ≠ "java/lang/invoke/MethodHandle" ∧ yX6_does.cls ≠ "java/lang/invoke/VarHandle" ∧ (parseMethodDescriptor yX6_does.desc).map (fun d => d.parameters.length) = some 4 := by decide +kernel
theorem wX6_does_19 : Cond.fieldLink RX6 19 "TandemExchangeModel" "trial" "[I" ∈ wsX6_does := by decide +kernel
theorem iX6_does_6 : ∀ w ∈ wsX60, w ∈ wsX6_does := by decide +kernel
theorem wX6_does_182 : Cond.constantLong RX6 182 (50) ∈ wsX6_does := by decide +kernel
set_option maxRecDepth 100000 in
set_option maxHeartbeats 4000000 in
theorem bX6_does_31 {p : Program} {l : Launch} {e : Env} {s : State} {m : MethodId} {args : Array Value} {below : List Frame} {meth : Method} {c : Code} {D : va_G} {cy : Nat → ClassId} {ad : Nat → Nat} {ba : Nat} {O : Int64} {S : teS}  {x1 : Int32} {x2 : Int32} {x3 : Int32} {x4 : Int32} {res : (Int32 × teS)} (X : teC wsX6_does RX6 cX6_does 8 (some .boolean) D cy ba p s m args meth c) : ∀ (S1 : teS) (v5 : Int32) (y0 : Int32) (H : Heap) (locs : List Loc) (ls : Array Slot), teR D cy ad ba O S1 H → va_S (teA ba) s.heap H locs → lv_has ls 8 [(0, .ref (ad 369)), (1, .int x1), (2, .int x2), (3, .int x3), (4, .int x4), (5, .int v5)] → fX6_does_31 x1 x2 x3 x4 S1 v5 y0 = some res → W p l e (headSpec wsX6_does rmX6_does).room s m args below meth c H locs 0 0 (MQ below (va_Qi (fun a (u : teS) => a = res.1 ∧ u = res.2) (fun u t => teR D cy ad ba O u t.heap) (teA ba)) args s 0 0 (teA ba)) (F0 m 31 ls [.int y0]) := by
  have hx := X.1
  have hb := X.2.1
  have hown := X.2.2.2.2.1
  intro S1 v5 y0 H locs ls hR hS hl hf
  unfold fX6_does_31 at hf
  refine lv_istore (lv' := [(6, .int y0), (0, .ref (ad 369)), (1, .int x1), (2, .int x2), (3, .int x3), (4, .int x4), (5, .int v5)]) hx hb dX6_does_31 hl (by decide) rfl (fun ls hl => ?_)
  refine lv_bipush (v := (10 : Int32)) hx hb dX6_does_33 (by decide) ?_
  refine lv_iload_n hx hb dX6_does_35 rfl (lv_at hl 4 rfl) ?_
  refine lv_imul hx hb dX6_does_36 ?_
  refine lv_iload hx hb dX6_does_37 (lv_at hl 5 rfl) ?_
  refine lv_iadd hx hb dX6_does_39 ?_
  refine lv_istore (lv' := [(7, .int (((10 : Int32) * x3) + x4)), (6, .int y0), (0, .ref (ad 369)), (1, .int x1), (2, .int x2), (3, .int x3), (4, .int x4), (5, .int v5)]) hx hb dX6_does_40 hl (by decide) rfl (fun ls hl => ?_)
  refine lv_iload_n hx hb dX6_does_42 rfl (lv_at hl 3 rfl) ?_
  by_cases c_7 : x1 = (1 : Int32)
  · replace hf := ite_t c_7 hf
    refine lv_tableIn (off := 49) (tgt := 92) hx hb dX6_does_43 (by rw [c_7]; decide) (by rw [c_7]; decide) (by rw [c_7]; decide) (by decide) ?_
    refine lv_iload hx hb dX6_does_92 (lv_at hl 1 rfl) ?_
    refine lv_if_eq (tgt := 119) hx hb dX6_does_94 (by decide) (fun c_8 => ?_) (fun c_8 => ?_)
    · replace hf := ite_t c_8 hf
      refine lv_iconst (v := (0 : Int32)) hx hb dX6_does_119 (by decide) ?_
      exact eZ X hR hS (by decide) (congrArg Prod.fst (Option.some.inj hf)) (congrArg Prod.snd (Option.some.inj hf)) dX6_does_120
    · replace hf := ite_f c_8 hf
      refine lv_iload hx hb dX6_does_97 (lv_at hl 6 rfl) ?_
      refine lv_if_ne (tgt := 119) hx hb dX6_does_99 (by decide) (fun c_9 => ?_) (fun c_9 => ?_)
      · replace hf := ite_f c_9 hf
        refine lv_iconst (v := (0 : Int32)) hx hb dX6_does_119 (by decide) ?_
        exact eZ X hR hS (by decide) (congrArg Prod.fst (Option.some.inj hf)) (congrArg Prod.snd (Option.some.inj hf)) dX6_does_120
      · replace hf := ite_t c_9 hf
        refine lv_iload_n hx hb dX6_does_102 rfl (lv_at hl 4 rfl) ?_
        refine lv_iload_n hx hb dX6_does_103 rfl (lv_at hl 5 rfl) ?_
        refine lv_icmp_eq (tgt := 119) hx hb dX6_does_104 (by decide) (fun c_10 => ?_) (fun c_10 => ?_)
        · replace hf := ite_t c_10 hf
          refine lv_iconst (v := (0 : Int32)) hx hb dX6_does_119 (by decide) ?_
          exact eZ X hR hS (by decide) (congrArg Prod.fst (Option.some.inj hf)) (congrArg Prod.snd (Option.some.inj hf)) dX6_does_120
        · replace hf := ite_f c_10 hf
          refine lv_aload_n hx hb dX6_does_107 rfl (lv_at hl 2 rfl) ?_
          refine rg_6_6 X hR iX6_does_6 wX6_does_19 dX6_does_108 ?_
          refine lv_iload_n hx hb dX6_does_111 rfl (lv_at hl 4 rfl) ?_
          refine lv_iload_n hx hb dX6_does_112 rfl (lv_at hl 5 rfl) ?_
          obtain ⟨r_11, hq_12, hf⟩ := bd1_some hf
          refine kSi (As := [.ref (ad 373), .int x2, .int x3]) (rest := []) X hR hS (zcX6_canPair l D cy ad ba O S1 373 x2 x3 rfl _ hq_12) (va_cwS 3 X.2.2.2.2.2.1 gX6_does_X6_canPair rfl rfl rfl kdX6_canPair.2 ⟨(Nat.le_of_ble_eq_true rfl), (Nat.le_of_ble_eq_true rfl)⟩)  rfl rfl hl.1 (Nat.le_of_ble_eq_true rfl) ⟨(Nat.le_of_ble_eq_true rfl), (Nat.le_of_ble_eq_true rfl)⟩ dX6_does_113 (fun H locs hR hS => ?_)
          refine lv_if_ne (tgt := 121) hx hb dX6_does_116 (by decide) (fun c_13 => ?_) (fun c_13 => ?_)
          · replace hf := ite_f c_13 hf
            refine lv_aload_n hx hb dX6_does_121 rfl (lv_at hl 2 rfl) ?_
            refine rg_6_6 X hR iX6_does_6 wX6_does_19 dX6_does_122 ?_
            refine lv_iload_n hx hb dX6_does_125 rfl (lv_at hl 4 rfl) ?_
            refine lv_iload_n hx hb dX6_does_126 rfl (lv_at hl 5 rfl) ?_
            obtain ⟨S2, hq_15, hf⟩ := bd1_some hf
            refine kSv (As := [.ref (ad 373), .int x2, .int x3]) (rest := []) X hR hS (zcX6_pairOn l D cy ad ba O S1 373 x2 x3 rfl _ hq_15) (va_cwS 3 X.2.2.2.2.2.1 gX6_does_X6_pairOn rfl rfl rfl kdX6_pairOn.2 ⟨(Nat.le_of_ble_eq_true rfl), (Nat.le_of_ble_eq_true rfl)⟩)  rfl rfl hl.1 (Nat.le_of_ble_eq_true rfl) ⟨(Nat.le_of_ble_eq_true rfl), (Nat.le_of_ble_eq_true rfl)⟩ dX6_does_127 (fun H locs hR hS => ?_)
            refine lv_iconst (v := (1 : Int32)) hx hb dX6_does_130 (by decide) ?_
            exact eZ X hR hS (by decide) (congrArg Prod.fst (Option.some.inj hf)) (congrArg Prod.snd (Option.some.inj hf)) dX6_does_131
          · replace hf := ite_t c_13 hf
            refine lv_iconst (v := (0 : Int32)) hx hb dX6_does_119 (by decide) ?_
            exact eZ X hR hS (by decide) (congrArg Prod.fst (Option.some.inj hf)) (congrArg Prod.snd (Option.some.inj hf)) dX6_does_120
  replace hf := ite_f c_7 hf
  by_cases c_16 : x1 = (2 : Int32)
  · replace hf := ite_t c_16 hf
    refine lv_tableIn (off := 89) (tgt := 132) hx hb dX6_does_43 (by rw [c_16]; decide) (by rw [c_16]; decide) (by rw [c_16]; decide) (by decide) ?_
    refine lv_iload hx hb dX6_does_132 (lv_at hl 7 rfl) ?_
    refine lv_if_eq (tgt := 153) hx hb dX6_does_134 (by decide) (fun c_17 => ?_) (fun c_17 => ?_)
    · replace hf := ite_t c_17 hf
      refine lv_iconst (v := (0 : Int32)) hx hb dX6_does_153 (by decide) ?_
      exact eZ X hR hS (by decide) (congrArg Prod.fst (Option.some.inj hf)) (congrArg Prod.snd (Option.some.inj hf)) dX6_does_154
    · replace hf := ite_f c_17 hf
      refine lv_iload hx hb dX6_does_137 (lv_at hl 0 rfl) ?_
      refine lv_if_ne (tgt := 153) hx hb dX6_does_139 (by decide) (fun c_18 => ?_) (fun c_18 => ?_)
      · replace hf := ite_f c_18 hf
        refine lv_iconst (v := (0 : Int32)) hx hb dX6_does_153 (by decide) ?_
        exact eZ X hR hS (by decide) (congrArg Prod.fst (Option.some.inj hf)) (congrArg Prod.snd (Option.some.inj hf)) dX6_does_154
      · replace hf := ite_t c_18 hf
        refine lv_aload_n hx hb dX6_does_142 rfl (lv_at hl 2 rfl) ?_
        refine rg_6_6 X hR iX6_does_6 wX6_does_19 dX6_does_143 ?_
        refine lv_iload_n hx hb dX6_does_146 rfl (lv_at hl 4 rfl) ?_
        obtain ⟨r_19, hq_20, hf⟩ := bd1_some hf
        refine kSi (As := [.ref (ad 373), .int x2]) (rest := []) X hR hS (zcX6_isFree l D cy ad ba O S1 373 x2 rfl _ hq_20) (va_cwS 2 X.2.2.2.2.2.1 gX6_does_X6_isFree rfl rfl rfl kdX6_isFree.2 ⟨(Nat.le_of_ble_eq_true rfl), (Nat.le_of_ble_eq_true rfl)⟩)  rfl rfl hl.1 (Nat.le_of_ble_eq_true rfl) ⟨(Nat.le_of_ble_eq_true rfl), (Nat.le_of_ble_eq_true rfl)⟩ dX6_does_147 (fun H locs hR hS => ?_)
        refine lv_if_eq (tgt := 155) hx hb dX6_does_150 (by decide) (fun c_21 => ?_) (fun c_21 => ?_)
        · replace hf := ite_t c_21 hf
          refine lv_aload_n hx hb dX6_does_155 rfl (lv_at hl 2 rfl) ?_
          refine rg_6_6 X hR iX6_does_6 wX6_does_19 dX6_does_156 ?_
          refine lv_iload_n hx hb dX6_does_159 rfl (lv_at hl 4 rfl) ?_
          obtain ⟨S3, hq_23, hf⟩ := bd1_some hf
          refine kSv (As := [.ref (ad 373), .int x2]) (rest := []) X hR hS (zcX6_partOn l D cy ad ba O S1 373 x2 rfl _ hq_23) (va_cwS 2 X.2.2.2.2.2.1 gX6_does_X6_partOn rfl rfl rfl kdX6_partOn.2 ⟨(Nat.le_of_ble_eq_true rfl), (Nat.le_of_ble_eq_true rfl)⟩)  rfl rfl hl.1 (Nat.le_of_ble_eq_true rfl) ⟨(Nat.le_of_ble_eq_true rfl), (Nat.le_of_ble_eq_true rfl)⟩ dX6_does_160 (fun H locs hR hS => ?_)
          refine lv_iconst (v := (1 : Int32)) hx hb dX6_does_163 (by decide) ?_
          exact eZ X hR hS (by decide) (congrArg Prod.fst (Option.some.inj hf)) (congrArg Prod.snd (Option.some.inj hf)) dX6_does_164
        · replace hf := ite_f c_21 hf
          refine lv_iconst (v := (0 : Int32)) hx hb dX6_does_153 (by decide) ?_
          exact eZ X hR hS (by decide) (congrArg Prod.fst (Option.some.inj hf)) (congrArg Prod.snd (Option.some.inj hf)) dX6_does_154
  replace hf := ite_f c_16 hf
  by_cases c_24 : x1 = (3 : Int32)
  · replace hf := ite_t c_24 hf
    refine lv_tableIn (off := 122) (tgt := 165) hx hb dX6_does_43 (by rw [c_24]; decide) (by rw [c_24]; decide) (by rw [c_24]; decide) (by decide) ?_
    refine lv_iload_n hx hb dX6_does_165 rfl (lv_at hl 4 rfl) ?_
    refine lv_if_ne (tgt := 188) hx hb dX6_does_166 (by decide) (fun c_25 => ?_) (fun c_25 => ?_)
    · replace hf := ite_f c_25 hf
      refine lv_iconst (v := (0 : Int32)) hx hb dX6_does_188 (by decide) ?_
      exact eZ X hR hS (by decide) (congrArg Prod.fst (Option.some.inj hf)) (congrArg Prod.snd (Option.some.inj hf)) dX6_does_189
    · replace hf := ite_t c_25 hf
      refine lv_iload hx hb dX6_does_169 (lv_at hl 0 rfl) ?_
      refine lv_if_ne (tgt := 188) hx hb dX6_does_171 (by decide) (fun c_26 => ?_) (fun c_26 => ?_)
      · replace hf := ite_f c_26 hf
        refine lv_iconst (v := (0 : Int32)) hx hb dX6_does_188 (by decide) ?_
        exact eZ X hR hS (by decide) (congrArg Prod.fst (Option.some.inj hf)) (congrArg Prod.snd (Option.some.inj hf)) dX6_does_189
      · replace hf := ite_t c_26 hf
        refine lv_aload_n hx hb dX6_does_174 rfl (lv_at hl 2 rfl) ?_
        refine rg_6_6 X hR iX6_does_6 wX6_does_19 dX6_does_175 ?_
        obtain ⟨r_27, S4, hq_28, hf⟩ := bd2_some hf
        refine kSi (As := [.ref (ad 373)]) (rest := []) X hR hS (zcX6_matchOn l D cy ad ba O S1 373 rfl _ _ hq_28) (va_cwS 1 X.2.2.2.2.2.1 gX6_does_X6_matchOn rfl rfl rfl kdX6_matchOn.2 ⟨(Nat.le_of_ble_eq_true rfl), (Nat.le_of_ble_eq_true rfl)⟩)  rfl rfl hl.1 (Nat.le_of_ble_eq_true rfl) ⟨(Nat.le_of_ble_eq_true rfl), (Nat.le_of_ble_eq_true rfl)⟩ dX6_does_178 (fun H locs hR hS => ?_)
        refine lv_if_lt (tgt := 188) hx hb dX6_does_181 (by decide) (fun c_29 => ?_) (fun c_29 => ?_)
        · replace hf := ite_t c_29 hf
          refine lv_iconst (v := (0 : Int32)) hx hb dX6_does_188 (by decide) ?_
          exact eZ X hR hS (by decide) (congrArg Prod.fst (Option.some.inj hf)) (congrArg Prod.snd (Option.some.inj hf)) dX6_does_189
        · replace hf := ite_f c_29 hf
          refine lv_iconst (v := (1 : Int32)) hx hb dX6_does_184 (by decide) ?_
          refine lv_goto (tgt := 189) hx hb dX6_does_185 (by decide) ?_
          exact eZ X hR hS (by decide) (congrArg Prod.fst (Option.some.inj hf)) (congrArg Prod.snd (Option.some.inj hf)) dX6_does_189
  replace hf := ite_f c_24 hf
  by_cases c_30 : x1 = (4 : Int32)
  · replace hf := ite_t c_30 hf
    refine lv_tableIn (off := 147) (tgt := 190) hx hb dX6_does_43 (by rw [c_30]; decide) (by rw [c_30]; decide) (by rw [c_30]; decide) (by decide) ?_
    refine lv_iload_n hx hb dX6_does_190 rfl (lv_at hl 4 rfl) ?_
    refine lv_if_ne (tgt := 223) hx hb dX6_does_191 (by decide) (fun c_31 => ?_) (fun c_31 => ?_)
    · replace hf := ite_f c_31 hf
      refine lv_iconst (v := (0 : Int32)) hx hb dX6_does_223 (by decide) ?_
      exact eZ X hR hS (by decide) (congrArg Prod.fst (Option.some.inj hf)) (congrArg Prod.snd (Option.some.inj hf)) dX6_does_224
    · replace hf := ite_t c_31 hf
      refine lv_iload hx hb dX6_does_194 (lv_at hl 0 rfl) ?_
      refine lv_i2l hx hb dX6_does_196 rfl ?_
      refine lv_lconst (v := (1 : Int64)) hx hb dX6_does_197 (by decide) ?_
      refine lv_ldc2 (v := (50 : Int64)) hx hb hown (X.2.2.2.2.2.1 _ wX6_does_182) dX6_does_198 ?_
      obtain ⟨r_32, hq_33, hf⟩ := bd1_some hf
      refine kSi (As := [.long ((((10 : Int32) * x3) + x4)).toInt64, .long (1 : Int64), .long (50 : Int64)]) (rest := []) X hR hS (zcX6_in l D cy ad ba O S1 (((((10 : Int32) * x3) + x4)).toInt64) (1 : Int64) (50 : Int64) _ hq_33) (va_cwS 3 X.2.2.2.2.2.1 gX6_does_X6_in rfl rfl rfl kdX6_in.2 ⟨(Nat.le_of_ble_eq_true rfl), (Nat.le_of_ble_eq_true rfl)⟩)  rfl rfl hl.1 (Nat.le_of_ble_eq_true rfl) ⟨(Nat.le_of_ble_eq_true rfl), (Nat.le_of_ble_eq_true rfl)⟩ dX6_does_201 (fun H locs hR hS => ?_)
      refine lv_if_eq (tgt := 223) hx hb dX6_does_204 (by decide) (fun c_34 => ?_) (fun c_34 => ?_)
      · replace hf := ite_t c_34 hf
        refine lv_iconst (v := (0 : Int32)) hx hb dX6_does_223 (by decide) ?_
        exact eZ X hR hS (by decide) (congrArg Prod.fst (Option.some.inj hf)) (congrArg Prod.snd (Option.some.inj hf)) dX6_does_224
      · replace hf := ite_f c_34 hf
        refine lv_aload_n hx hb dX6_does_207 rfl (lv_at hl 2 rfl) ?_
        refine rg_6_6 X hR iX6_does_6 wX6_does_19 dX6_does_208 ?_
        refine lv_iload hx hb dX6_does_211 (lv_at hl 0 rfl) ?_
        obtain ⟨r_35, S5, hq_36, hf⟩ := bd2_some hf
        refine kSi (As := [.ref (ad 373), .int (((10 : Int32) * x3) + x4)]) (rest := []) X hR hS (zcX6_settleOn l D cy ad ba O S1 373 (((10 : Int32) * x3) + x4) rfl _ _ hq_36) (va_cwS 2 X.2.2.2.2.2.1 gX6_does_X6_settleOn rfl rfl rfl kdX6_settleOn.2 ⟨(Nat.le_of_ble_eq_true rfl), (Nat.le_of_ble_eq_true rfl)⟩)  rfl rfl hl.1 (Nat.le_of_ble_eq_true rfl) ⟨(Nat.le_of_ble_eq_true rfl), (Nat.le_of_ble_eq_true rfl)⟩ dX6_does_213 (fun H locs hR hS => ?_)
        refine lv_if_lt (tgt := 223) hx hb dX6_does_216 (by decide) (fun c_37 => ?_) (fun c_37 => ?_)
        · replace hf := ite_t c_37 hf
          refine lv_iconst (v := (0 : Int32)) hx hb dX6_does_223 (by decide) ?_
          exact eZ X hR hS (by decide) (congrArg Prod.fst (Option.some.inj hf)) (congrArg Prod.snd (Option.some.inj hf)) dX6_does_224
        · replace hf := ite_f c_37 hf
          refine lv_iconst (v := (1 : Int32)) hx hb dX6_does_219 (by decide) ?_
          refine lv_goto (tgt := 224) hx hb dX6_does_220 (by decide) ?_
          exact eZ X hR hS (by decide) (congrArg Prod.fst (Option.some.inj hf)) (congrArg Prod.snd (Option.some.inj hf)) dX6_does_224
  replace hf := ite_f c_30 hf
  by_cases c_38 : x1 = (5 : Int32)
  · replace hf := ite_t c_38 hf
    refine lv_tableIn (off := 182) (tgt := 225) hx hb dX6_does_43 (by rw [c_38]; decide) (by rw [c_38]; decide) (by rw [c_38]; decide) (by decide) ?_
    refine lv_bipush (v := (100 : Int32)) hx hb dX6_does_225 (by decide) ?_
    refine lv_iload_n hx hb dX6_does_227 rfl (lv_at hl 4 rfl) ?_
    refine lv_imul hx hb dX6_does_228 ?_
    refine lv_iload hx hb dX6_does_229 (lv_at hl 0 rfl) ?_
    refine lv_iadd hx hb dX6_does_231 ?_
    obtain ⟨r_39, hq_40, hf⟩ := bd1_some hf
    refine kSi (As := [.int (((100 : Int32) * x2) + (((10 : Int32) * x3) + x4))]) (rest := []) X hR hS (zcX6_isAbsent l D cy ad ba O S1 (((100 : Int32) * x2) + (((10 : Int32) * x3) + x4)) _ hq_40) (va_cwS 1 X.2.2.2.2.2.1 gX6_does_X6_isAbsent rfl rfl rfl kdX6_isAbsent.2 ⟨(Nat.le_of_ble_eq_true rfl), (Nat.le_of_ble_eq_true rfl)⟩)  rfl rfl hl.1 (Nat.le_of_ble_eq_true rfl) ⟨(Nat.le_of_ble_eq_true rfl), (Nat.le_of_ble_eq_true rfl)⟩ dX6_does_232 (fun H locs hR hS => ?_)
    refine lv_if_ne (tgt := 240) hx hb dX6_does_235 (by decide) (fun c_41 => ?_) (fun c_41 => ?_)
    · replace hf := ite_f c_41 hf
      refine lv_aload_n hx hb dX6_does_240 rfl (lv_at hl 2 rfl) ?_
      refine rg_6_6 X hR iX6_does_6 wX6_does_19 dX6_does_241 ?_
      refine lv_bipush (v := (100 : Int32)) hx hb dX6_does_244 (by decide) ?_
      refine lv_iload_n hx hb dX6_does_246 rfl (lv_at hl 4 rfl) ?_
      refine lv_imul hx hb dX6_does_247 ?_
      refine lv_iload hx hb dX6_does_248 (lv_at hl 0 rfl) ?_
      refine lv_iadd hx hb dX6_does_250 ?_
      obtain ⟨S6, hq_43, hf⟩ := bd1_some hf
      refine kSv (As := [.ref (ad 373), .int (((100 : Int32) * x2) + (((10 : Int32) * x3) + x4))]) (rest := []) X hR hS (zcX6_weekOn l D cy ad ba O S1 373 (((100 : Int32) * x2) + (((10 : Int32) * x3) + x4)) rfl _ hq_43) (va_cwS 2 X.2.2.2.2.2.1 gX6_does_X6_weekOn rfl rfl rfl kdX6_weekOn.2 ⟨(Nat.le_of_ble_eq_true rfl), (Nat.le_of_ble_eq_true rfl)⟩)  rfl rfl hl.1 (Nat.le_of_ble_eq_true rfl) ⟨(Nat.le_of_ble_eq_true rfl), (Nat.le_of_ble_eq_true rfl)⟩ dX6_does_251 (fun H locs hR hS => ?_)
      refine lv_iconst (v := (1 : Int32)) hx hb dX6_does_254 (by decide) ?_
      exact eZ X hR hS (by decide) (congrArg Prod.fst (Option.some.inj hf)) (congrArg Prod.snd (Option.some.inj hf)) dX6_does_255
    · replace hf := ite_t c_41 hf
      refine lv_iconst (v := (0 : Int32)) hx hb dX6_does_238 (by decide) ?_
      exact eZ X hR hS (by decide) (congrArg Prod.fst (Option.some.inj hf)) (congrArg Prod.snd (Option.some.inj hf)) dX6_does_239
  replace hf := ite_f c_38 hf
  by_cases c_44 : x1 = (6 : Int32)
  · replace hf := ite_t c_44 hf
    refine lv_tableIn (off := 213) (tgt := 256) hx hb dX6_does_43 (by rw [c_44]; decide) (by rw [c_44]; decide) (by rw [c_44]; decide) (by decide) ?_
    refine lv_iload hx hb dX6_does_256 (lv_at hl 7 rfl) ?_
    refine lv_if_eq (tgt := 289) hx hb dX6_does_258 (by decide) (fun c_45 => ?_) (fun c_45 => ?_)
    · replace hf := ite_t c_45 hf
      refine lv_iconst (v := (0 : Int32)) hx hb dX6_does_289 (by decide) ?_
      exact eZ X hR hS (by decide) (congrArg Prod.fst (Option.some.inj hf)) (congrArg Prod.snd (Option.some.inj hf)) dX6_does_290
    · replace hf := ite_f c_45 hf
      refine lv_iload_n hx hb dX6_does_261 rfl (lv_at hl 5 rfl) ?_
      obtain ⟨r_46, hq_47, hf⟩ := bd1_some hf
      refine kSi (As := [.int x3]) (rest := []) X hR hS (zcX6_isTongue l D cy ad ba O S1 x3 _ hq_47) (va_cwS 1 X.2.2.2.2.2.1 gX6_does_X6_isTongue rfl rfl rfl kdX6_isTongue.2 ⟨(Nat.le_of_ble_eq_true rfl), (Nat.le_of_ble_eq_true rfl)⟩)  rfl rfl hl.1 (Nat.le_of_ble_eq_true rfl) ⟨(Nat.le_of_ble_eq_true rfl), (Nat.le_of_ble_eq_true rfl)⟩ dX6_does_262 (fun H locs hR hS => ?_)
      refine lv_if_eq (tgt := 289) hx hb dX6_does_265 (by decide) (fun c_48 => ?_) (fun c_48 => ?_)
      · replace hf := ite_t c_48 hf
        refine lv_iconst (v := (0 : Int32)) hx hb dX6_does_289 (by decide) ?_
        exact eZ X hR hS (by decide) (congrArg Prod.fst (Option.some.inj hf)) (congrArg Prod.snd (Option.some.inj hf)) dX6_does_290
      · replace hf := ite_f c_48 hf
        refine lv_aload_n hx hb dX6_does_268 rfl (lv_at hl 2 rfl) ?_
        refine rg_6_6 X hR iX6_does_6 wX6_does_19 dX6_does_269 ?_
        refine lv_iload_n hx hb dX6_does_272 rfl (lv_at hl 4 rfl) ?_
        refine lv_iload_n hx hb dX6_does_273 rfl (lv_at hl 5 rfl) ?_
        refine lv_bipush (v := (10 : Int32)) hx hb dX6_does_274 (by decide) ?_
        refine lv_iload hx hb dX6_does_276 (lv_at hl 6 rfl) ?_
        refine lv_imul hx hb dX6_does_278 ?_
        obtain ⟨r_49, S7, hq_50, hf⟩ := bd2_some hf
        refine kSi (As := [.ref (ad 373), .int x2, .int x3, .int ((10 : Int32) * x4)]) (rest := []) X hR hS (zcX6_testOn l D cy ad ba O S1 373 x2 x3 ((10 : Int32) * x4) rfl _ _ hq_50) (va_cwS 4 X.2.2.2.2.2.1 gX6_does_X6_testOn rfl rfl rfl kdX6_testOn.2 ⟨(Nat.le_of_ble_eq_true rfl), (Nat.le_of_ble_eq_true rfl)⟩)  rfl rfl hl.1 (Nat.le_of_ble_eq_true rfl) ⟨(Nat.le_of_ble_eq_true rfl), (Nat.le_of_ble_eq_true rfl)⟩ dX6_does_279 (fun H locs hR hS => ?_)
        refine lv_if_lt (tgt := 289) hx hb dX6_does_282 (by decide) (fun c_51 => ?_) (fun c_51 => ?_)
        · replace hf := ite_t c_51 hf
          refine lv_iconst (v := (0 : Int32)) hx hb dX6_does_289 (by decide) ?_
          exact eZ X hR hS (by decide) (congrArg Prod.fst (Option.some.inj hf)) (congrArg Prod.snd (Option.some.inj hf)) dX6_does_290
        · replace hf := ite_f c_51 hf
          refine lv_iconst (v := (1 : Int32)) hx hb dX6_does_285 (by decide) ?_
          refine lv_goto (tgt := 290) hx hb dX6_does_286 (by decide) ?_
          exact eZ X hR hS (by decide) (congrArg Prod.fst (Option.some.inj hf)) (congrArg Prod.snd (Option.some.inj hf)) dX6_does_290
  replace hf := ite_f c_44 hf
  by_cases c_52 : x1 = (7 : Int32)
  · replace hf := ite_t c_52 hf
    refine lv_tableIn (off := 248) (tgt := 291) hx hb dX6_does_43 (by rw [c_52]; decide) (by rw [c_52]; decide) (by rw [c_52]; decide) (by decide) ?_
    refine lv_iload hx hb dX6_does_291 (lv_at hl 1 rfl) ?_
    refine lv_if_eq (tgt := 321) hx hb dX6_does_293 (by decide) (fun c_53 => ?_) (fun c_53 => ?_)
    · replace hf := ite_t c_53 hf
      refine lv_iconst (v := (0 : Int32)) hx hb dX6_does_321 (by decide) ?_
      exact eZ X hR hS (by decide) (congrArg Prod.fst (Option.some.inj hf)) (congrArg Prod.snd (Option.some.inj hf)) dX6_does_322
    · replace hf := ite_f c_53 hf
      refine lv_iload hx hb dX6_does_296 (lv_at hl 6 rfl) ?_
      refine lv_if_ne (tgt := 321) hx hb dX6_does_298 (by decide) (fun c_54 => ?_) (fun c_54 => ?_)
      · replace hf := ite_f c_54 hf
        refine lv_iconst (v := (0 : Int32)) hx hb dX6_does_321 (by decide) ?_
        exact eZ X hR hS (by decide) (congrArg Prod.fst (Option.some.inj hf)) (congrArg Prod.snd (Option.some.inj hf)) dX6_does_322
      · replace hf := ite_t c_54 hf
        refine lv_aload_n hx hb dX6_does_301 rfl (lv_at hl 2 rfl) ?_
        refine rg_6_6 X hR iX6_does_6 wX6_does_19 dX6_does_302 ?_
        refine lv_iload_n hx hb dX6_does_305 rfl (lv_at hl 4 rfl) ?_
        obtain ⟨r_55, hq_56, hf⟩ := bd1_some hf
        refine kSi (As := [.int x2]) (rest := [.ref (ad 373)]) X hR hS (zcX6_at l D cy ad ba O S1 x2 _ hq_56) (va_cwS 1 X.2.2.2.2.2.1 gX6_does_X6_at rfl rfl rfl kdX6_at.2 ⟨(Nat.le_of_ble_eq_true rfl), (Nat.le_of_ble_eq_true rfl)⟩)  rfl rfl hl.1 (Nat.le_of_ble_eq_true rfl) ⟨(Nat.le_of_ble_eq_true rfl), (Nat.le_of_ble_eq_true rfl)⟩ dX6_does_306 (fun H locs hR hS => ?_)
        refine lv_bipush (v := (8 : Int32)) hx hb dX6_does_309 (by decide) ?_
        refine lv_iadd hx hb dX6_does_311 ?_
        obtain ⟨h_57, hf⟩ := chk_some hf
        refine ra_int X hR (r := 373) rfl h_57 dX6_does_312 ?_
        refine lv_iload_n hx hb dX6_does_313 rfl (lv_at hl 5 rfl) ?_
        refine lv_icmp_ne (tgt := 321) hx hb dX6_does_314 (by decide) (fun c_58 => ?_) (fun c_58 => ?_)
        · replace hf := ite_f c_58 hf
          refine lv_iconst (v := (0 : Int32)) hx hb dX6_does_321 (by decide) ?_
          exact eZ X hR hS (by decide) (congrArg Prod.fst (Option.some.inj hf)) (congrArg Prod.snd (Option.some.inj hf)) dX6_does_322
        · replace hf := ite_t c_58 hf
          refine lv_iconst (v := (1 : Int32)) hx hb dX6_does_317 (by decide) ?_
          refine lv_goto (tgt := 322) hx hb dX6_does_318 (by decide) ?_
          exact eZ X hR hS (by decide) (congrArg Prod.fst (Option.some.inj hf)) (congrArg Prod.snd (Option.some.inj hf)) dX6_does_322
  replace hf := ite_f c_52 hf
  by_cases c_59 : x1 = (8 : Int32)
  · replace hf := ite_t c_59 hf
    refine lv_tableIn (off := 280) (tgt := 323) hx hb dX6_does_43 (by rw [c_59]; decide) (by rw [c_59]; decide) (by rw [c_59]; decide) (by decide) ?_
    refine lv_iload_n hx hb dX6_does_323 rfl (lv_at hl 4 rfl) ?_
    refine lv_if_ne (tgt := 348) hx hb dX6_does_324 (by decide) (fun c_60 => ?_) (fun c_60 => ?_)
    · replace hf := ite_f c_60 hf
      refine lv_iconst (v := (0 : Int32)) hx hb dX6_does_348 (by decide) ?_
      exact eZ X hR hS (by decide) (congrArg Prod.fst (Option.some.inj hf)) (congrArg Prod.snd (Option.some.inj hf)) dX6_does_349
    · replace hf := ite_t c_60 hf
      refine lv_iload_n hx hb dX6_does_327 rfl (lv_at hl 5 rfl) ?_
      refine lv_if_ne (tgt := 348) hx hb dX6_does_328 (by decide) (fun c_61 => ?_) (fun c_61 => ?_)
      · replace hf := ite_f c_61 hf
        refine lv_iconst (v := (0 : Int32)) hx hb dX6_does_348 (by decide) ?_
        exact eZ X hR hS (by decide) (congrArg Prod.fst (Option.some.inj hf)) (congrArg Prod.snd (Option.some.inj hf)) dX6_does_349
      · replace hf := ite_t c_61 hf
        refine lv_aload_n hx hb dX6_does_331 rfl (lv_at hl 2 rfl) ?_
        refine rg_6_6 X hR iX6_does_6 wX6_does_19 dX6_does_332 ?_
        refine lv_iconst (v := (0 : Int32)) hx hb dX6_does_335 (by decide) ?_
        obtain ⟨r_62, hq_63, hf⟩ := bd1_some hf
        refine kSi (As := [.ref (ad 373), .int (0 : Int32)]) (rest := []) X hR hS (zcX6_over l D cy ad ba O S1 373 (0 : Int32) rfl _ hq_63) (va_cwS 2 X.2.2.2.2.2.1 gX6_does_X6_over rfl rfl rfl kdX6_over.2 ⟨(Nat.le_of_ble_eq_true rfl), (Nat.le_of_ble_eq_true rfl)⟩)  rfl rfl hl.1 (Nat.le_of_ble_eq_true rfl) ⟨(Nat.le_of_ble_eq_true rfl), (Nat.le_of_ble_eq_true rfl)⟩ dX6_does_336 (fun H locs hR hS => ?_)
        refine lv_iload hx hb dX6_does_339 (lv_at hl 6 rfl) ?_
        refine lv_icmp_ne (tgt := 348) hx hb dX6_does_341 (by decide) (fun c_64 => ?_) (fun c_64 => ?_)
        · replace hf := ite_f c_64 hf
          refine lv_iconst (v := (0 : Int32)) hx hb dX6_does_348 (by decide) ?_
          exact eZ X hR hS (by decide) (congrArg Prod.fst (Option.some.inj hf)) (congrArg Prod.snd (Option.some.inj hf)) dX6_does_349
        · replace hf := ite_t c_64 hf
          refine lv_iconst (v := (1 : Int32)) hx hb dX6_does_344 (by decide) ?_
          refine lv_goto (tgt := 349) hx hb dX6_does_345 (by decide) ?_
          exact eZ X hR hS (by decide) (congrArg Prod.fst (Option.some.inj hf)) (congrArg Prod.snd (Option.some.inj hf)) dX6_does_349
  replace hf := ite_f c_59 hf
  by_cases c_65 : x1 = (9 : Int32)
  · replace hf := ite_t c_65 hf
    refine lv_tableIn (off := 307) (tgt := 350) hx hb dX6_does_43 (by rw [c_65]; decide) (by rw [c_65]; decide) (by rw [c_65]; decide) (by decide) ?_
    refine lv_iload hx hb dX6_does_350 (lv_at hl 7 rfl) ?_
    refine lv_if_eq (tgt := 382) hx hb dX6_does_352 (by decide) (fun c_66 => ?_) (fun c_66 => ?_)
    · replace hf := ite_t c_66 hf
      refine lv_iconst (v := (0 : Int32)) hx hb dX6_does_382 (by decide) ?_
      exact eZ X hR hS (by decide) (congrArg Prod.fst (Option.some.inj hf)) (congrArg Prod.snd (Option.some.inj hf)) dX6_does_383
    · replace hf := ite_f c_66 hf
      refine lv_iload_n hx hb dX6_does_355 rfl (lv_at hl 5 rfl) ?_
      obtain ⟨r_67, hq_68, hf⟩ := bd1_some hf
      refine kSi (As := [.int x3]) (rest := []) X hR hS (zcX6_isTongue l D cy ad ba O S1 x3 _ hq_68) (va_cwS 1 X.2.2.2.2.2.1 gX6_does_X6_isTongue rfl rfl rfl kdX6_isTongue.2 ⟨(Nat.le_of_ble_eq_true rfl), (Nat.le_of_ble_eq_true rfl)⟩)  rfl rfl hl.1 (Nat.le_of_ble_eq_true rfl) ⟨(Nat.le_of_ble_eq_true rfl), (Nat.le_of_ble_eq_true rfl)⟩ dX6_does_356 (fun H locs hR hS => ?_)
      refine lv_if_eq (tgt := 382) hx hb dX6_does_359 (by decide) (fun c_69 => ?_) (fun c_69 => ?_)
      · replace hf := ite_t c_69 hf
        refine lv_iconst (v := (0 : Int32)) hx hb dX6_does_382 (by decide) ?_
        exact eZ X hR hS (by decide) (congrArg Prod.fst (Option.some.inj hf)) (congrArg Prod.snd (Option.some.inj hf)) dX6_does_383
      · replace hf := ite_f c_69 hf
        refine lv_aload_n hx hb dX6_does_362 rfl (lv_at hl 2 rfl) ?_
        refine rg_6_6 X hR iX6_does_6 wX6_does_19 dX6_does_363 ?_
        refine lv_iload_n hx hb dX6_does_366 rfl (lv_at hl 4 rfl) ?_
        obtain ⟨r_70, hq_71, hf⟩ := bd1_some hf
        refine kSi (As := [.int x2]) (rest := [.ref (ad 373)]) X hR hS (zcX6_at l D cy ad ba O S1 x2 _ hq_71) (va_cwS 1 X.2.2.2.2.2.1 gX6_does_X6_at rfl rfl rfl kdX6_at.2 ⟨(Nat.le_of_ble_eq_true rfl), (Nat.le_of_ble_eq_true rfl)⟩)  rfl rfl hl.1 (Nat.le_of_ble_eq_true rfl) ⟨(Nat.le_of_ble_eq_true rfl), (Nat.le_of_ble_eq_true rfl)⟩ dX6_does_367 (fun H locs hR hS => ?_)
        refine lv_iload_n hx hb dX6_does_370 rfl (lv_at hl 5 rfl) ?_
        refine lv_iadd hx hb dX6_does_371 ?_
        obtain ⟨h_72, hf⟩ := chk_some hf
        refine ra_int X hR (r := 373) rfl h_72 dX6_does_372 ?_
        refine lv_iload hx hb dX6_does_373 (lv_at hl 6 rfl) ?_
        refine lv_icmp_ne (tgt := 382) hx hb dX6_does_375 (by decide) (fun c_73 => ?_) (fun c_73 => ?_)
        · replace hf := ite_f c_73 hf
          refine lv_iconst (v := (0 : Int32)) hx hb dX6_does_382 (by decide) ?_
          exact eZ X hR hS (by decide) (congrArg Prod.fst (Option.some.inj hf)) (congrArg Prod.snd (Option.some.inj hf)) dX6_does_383
        · replace hf := ite_t c_73 hf
          refine lv_iconst (v := (1 : Int32)) hx hb dX6_does_378 (by decide) ?_
          refine lv_goto (tgt := 383) hx hb dX6_does_379 (by decide) ?_
          exact eZ X hR hS (by decide) (congrArg Prod.fst (Option.some.inj hf)) (congrArg Prod.snd (Option.some.inj hf)) dX6_does_383
  replace hf := ite_f c_65 hf
  refine lv_tableOut (tgt := 384) hx hb dX6_does_43 (te_sw (fun k h1 h2 => ?_)) (by decide) ?_
  · have hk : k = 1 ∨ k = 2 ∨ k = 3 ∨ k = 4 ∨ k = 5 ∨ k = 6 ∨ k = 7 ∨ k = 8 ∨ k = 9 := by omega
    rcases hk with rfl | rfl | rfl | rfl | rfl | rfl | rfl | rfl | rfl
    · exact lv_neT c_7 (by decide)
    · exact lv_neT c_16 (by decide)
    · exact lv_neT c_24 (by decide)
    · exact lv_neT c_30 (by decide)
    · exact lv_neT c_38 (by decide)
    · exact lv_neT c_44 (by decide)
    · exact lv_neT c_52 (by decide)
    · exact lv_neT c_59 (by decide)
    · exact lv_neT c_65 (by decide)
  refine lv_iconst (v := (0 : Int32)) hx hb dX6_does_384 (by decide) ?_
  exact eZ X hR hS (by decide) (congrArg Prod.fst (Option.some.inj hf)) (congrArg Prod.snd (Option.some.inj hf)) dX6_does_385
set_option maxRecDepth 100000 in
set_option maxHeartbeats 4000000 in
theorem bX6_does_0 {p : Program} {l : Launch} {e : Env} {s : State} {m : MethodId} {args : Array Value} {below : List Frame} {meth : Method} {c : Code} {D : va_G} {cy : Nat → ClassId} {ad : Nat → Nat} {ba : Nat} {O : Int64} {S : teS}  {x1 : Int32} {x2 : Int32} {x3 : Int32} {x4 : Int32} {res : (Int32 × teS)} (X : teC wsX6_does RX6 cX6_does 8 (some .boolean) D cy ba p s m args meth c) (H : Heap) (locs : List Loc) (ls : Array Slot) (hR : teR D cy ad ba O S H) (hS : va_S (teA ba) s.heap H locs) (hl : lv_has ls 8 [(0, .ref (ad 369)), (1, .int x1), (2, .int x2), (3, .int x3), (4, .int x4)]) (hf : fX6_does x1 x2 x3 x4 S = some res) : W p l e (headSpec wsX6_does rmX6_does).room s m args below meth c H locs 0 0 (MQ below (va_Qi (fun a (u : teS) => a = res.1 ∧ u = res.2) (fun u t => teR D cy ad ba O u t.heap) (teA ba)) args s 0 0 (teA ba)) (F0 m 0 ls []) := by
  have hx := X.1
  have hb := X.2.1
  have hown := X.2.2.2.2.1
  unfold fX6_does at hf
  refine lv_aload_n hx hb dX6_does_0 rfl (lv_at hl 0 rfl) ?_
  refine rg_6_6 X hR iX6_does_6 wX6_does_19 dX6_does_1 ?_
  refine lv_iload_n hx hb dX6_does_4 rfl (lv_at hl 2 rfl) ?_
  obtain ⟨r_1, hq_2, hf⟩ := bd1_some hf
  refine kSi (As := [.ref (ad 373), .int x2]) (rest := []) X hR hS (zcX6_isMember l D cy ad ba O S 373 x2 rfl _ hq_2) (va_cwS 2 X.2.2.2.2.2.1 gX6_does_X6_isMember rfl rfl rfl kdX6_isMember.2 ⟨(Nat.le_of_ble_eq_true rfl), (Nat.le_of_ble_eq_true rfl)⟩)  rfl rfl hl.1 (Nat.le_of_ble_eq_true rfl) ⟨(Nat.le_of_ble_eq_true rfl), (Nat.le_of_ble_eq_true rfl)⟩ dX6_does_5 (fun H locs hR hS => ?_)
  refine lv_istore (lv' := [(5, .int r_1), (0, .ref (ad 369)), (1, .int x1), (2, .int x2), (3, .int x3), (4, .int x4)]) hx hb dX6_does_8 hl (by decide) rfl (fun ls hl => ?_)
  refine lv_iload hx hb dX6_does_10 (lv_at hl 0 rfl) ?_
  refine lv_if_eq (tgt := 30) hx hb dX6_does_12 (by decide) (fun c_3 => ?_) (fun c_3 => ?_)
  · replace hf := ite_t c_3 hf
    refine lv_iconst (v := (0 : Int32)) hx hb dX6_does_30 (by decide) ?_
    exact bX6_does_31 (S := S) (x1 := x1) (x2 := x2) (x3 := x3) (x4 := x4) X S (r_1) ((0 : Int32)) _ _ _ hR hS (lv_sub hl [1, 2, 3, 4, 5, 0] rfl) hf
  · replace hf := ite_f c_3 hf
    refine lv_aload_n hx hb dX6_does_15 rfl (lv_at hl 1 rfl) ?_
    refine rg_6_6 X hR iX6_does_6 wX6_does_19 dX6_does_16 ?_
    refine lv_iload_n hx hb dX6_does_19 rfl (lv_at hl 4 rfl) ?_
    obtain ⟨r_4, hq_5, hf⟩ := bd1_some hf
    refine kSi (As := [.ref (ad 373), .int x3]) (rest := []) X hR hS (zcX6_isMember l D cy ad ba O S 373 x3 rfl _ hq_5) (va_cwS 2 X.2.2.2.2.2.1 gX6_does_X6_isMember rfl rfl rfl kdX6_isMember.2 ⟨(Nat.le_of_ble_eq_true rfl), (Nat.le_of_ble_eq_true rfl)⟩)  rfl rfl hl.1 (Nat.le_of_ble_eq_true rfl) ⟨(Nat.le_of_ble_eq_true rfl), (Nat.le_of_ble_eq_true rfl)⟩ dX6_does_20 (fun H locs hR hS => ?_)
    refine lv_if_eq (tgt := 30) hx hb dX6_does_23 (by decide) (fun c_6 => ?_) (fun c_6 => ?_)
    · replace hf := ite_t c_6 hf
      refine lv_iconst (v := (0 : Int32)) hx hb dX6_does_30 (by decide) ?_
      exact bX6_does_31 (S := S) (x1 := x1) (x2 := x2) (x3 := x3) (x4 := x4) X S (r_1) ((0 : Int32)) _ _ _ hR hS (lv_sub hl [1, 2, 3, 4, 5, 0] rfl) hf
    · replace hf := ite_f c_6 hf
      refine lv_iconst (v := (1 : Int32)) hx hb dX6_does_26 (by decide) ?_
      refine lv_goto (tgt := 31) hx hb dX6_does_27 (by decide) ?_
      exact bX6_does_31 (S := S) (x1 := x1) (x2 := x2) (x3 := x3) (x4 := x4) X S (r_1) ((1 : Int32)) _ _ _ hR hS (lv_sub hl [1, 2, 3, 4, 5, 0] rfl) hf
theorem zcX6_does (l : Launch) (D : va_G) (cy : Nat → ClassId) (ad : Nat → Nat) (ba : Nat) (O : Int64) (S : teS) (x1 : Int32) (x2 : Int32) (x3 : Int32) (x4 : Int32) (r : Int32) (S1 : teS) (hf : fX6_does x1 x2 x3 x4 S = some (r, S1)) : cI l yX6_does wsX6_does rmX6_does D cy ad ba O S [.ref (ad 369), .int x1, .int x2, .int x3, .int x4] r S1 :=
  te_of (by decide) rfl (Nat.le_of_ble_eq_true rfl) (fun p e s m below meth c ls X hR hS hl => bX6_does_0 (res := (r, S1)) (S := S) (x1 := x1) (x2 := x2) (x3 := x3) (x4 := x4) X _ _ _ hR hS hl hf)
abbrev rmX6_runScript : Room := { frames := 8, cells := 0, slots := 0, locals := 183 }
theorem kdX6_runScript : yX6_runScript.cls = RX6 ∧ yX6_runScript.cls ≠ "java/lang/invoke/MethodHandle" ∧ yX6_runScript.cls ≠ "java/lang/invoke/VarHandle" ∧ (parseMethodDescriptor yX6_runScript.desc).map (fun d => d.parameters.length) = some 2 := by decide +kernel
theorem wX6_runScript_203 : Cond.constantLong RX6 203 (10000) ∈ wsX6_runScript := by decide +kernel
theorem wX6_runScript_205 : Cond.constantLong RX6 205 (4) ∈ wsX6_runScript := by decide +kernel
theorem wX6_runScript_16 : Cond.fieldLink RX6 16 "TandemExchangeModel" "now" "[I" ∈ wsX6_runScript := by decide +kernel
theorem iX6_runScript_6 : ∀ w ∈ wsX60, w ∈ wsX6_runScript := by decide +kernel
theorem wX6_runScript_19 : Cond.fieldLink RX6 19 "TandemExchangeModel" "trial" "[I" ∈ wsX6_runScript := by decide +kernel
set_option maxRecDepth 100000 in
set_option maxHeartbeats 4000000 in
theorem bX6_runScript_89 {p : Program} {l : Launch} {e : Env} {s : State} {m : MethodId} {args : Array Value} {below : List Frame} {meth : Method} {c : Code} {D : va_G} {cy : Nat → ClassId} {ad : Nat → Nat} {ba : Nat} {O : Int64} {S : teS}  {x1 : Int32} {x2 : Int64} {res : (Int32 × teS)} (X : teC wsX6_runScript RX6 cX6_runScript 10 (some .int) D cy ba p s m args meth c) : ∀ (n : Nat), ∀ (S1 : teS) (v4 : Int64) (v6 : Int64) (v8 : Int32) (H : Heap) (locs : List Loc) (ls : Array Slot), teR D cy ad ba O S1 H → va_S (teA ba) s.heap H locs → lv_has ls 10 [(0, .ref (ad 369)), (1, .int x1), (4, .long v4), (6, .long v6), (8, .int v8)] → fX6_runScript_89 x1 x2 n S1 v4 v6 v8 = some res → W p l e (headSpec wsX6_runScript rmX6_runScript).room s m args below meth c H locs 0 0 (MQ below (va_Qi (fun a (u : teS) => a = res.1 ∧ u = res.2) (fun u t => teR D cy ad ba O u t.heap) (teA ba)) args s 0 0 (teA ba)) (F0 m 89 ls []) := by
  have hx := X.1
  have hb := X.2.1
  have hown := X.2.2.2.2.1
  intro n
  induction n with
  | zero =>
    intro S1 v4 v6 v8 H locs ls hR hS hl hf
    exact nomatch hf
  | succ n ih =>
    intro S1 v4 v6 v8 H locs ls hR hS hl hf
    unfold fX6_runScript_89 at hf
    refine lv_iload hx hb dX6_runScript_89 (lv_at hl 4 rfl) ?_
    refine lv_iload_n hx hb dX6_runScript_91 rfl (lv_at hl 1 rfl) ?_
    refine lv_icmp_ge (tgt := 161) hx hb dX6_runScript_92 (by decide) (fun c_14 => ?_) (fun c_14 => ?_)
    · replace hf := ite_t c_14 hf
      refine lv_sipush (v := (-9999 : Int32)) hx hb dX6_runScript_161 (by decide) ?_
      exact eI X hR hS (congrArg Prod.fst (Option.some.inj hf)) (congrArg Prod.snd (Option.some.inj hf)) dX6_runScript_164
    · replace hf := ite_f c_14 hf
      refine lv_lload hx hb dX6_runScript_95 (lv_at hl 2 rfl) ?_
      refine lv_ldc2 (v := (10000 : Int64)) hx hb hown (X.2.2.2.2.2.1 _ wX6_runScript_203) dX6_runScript_97 ?_
      refine lv_ldiv hx hb dX6_runScript_100 (by decide) ?_
      refine lv_lstore (lv' := [(4, .long (v4 / (10000 : Int64))), (0, .ref (ad 369)), (1, .int x1), (6, .long v6), (8, .int v8)]) hx hb dX6_runScript_101 hl (by decide) rfl (fun ls hl => ?_)
      refine lv_lload hx hb dX6_runScript_103 (lv_at hl 3 rfl) ?_
      refine lv_lload hx hb dX6_runScript_105 (lv_at hl 0 rfl) ?_
      obtain ⟨h_15, hf⟩ := chk_some hf
      refine lv_ldiv hx hb dX6_runScript_107 (of_decide_eq_true h_15) ?_
      refine lv_l2i hx hb dX6_runScript_108 rfl ?_
      refine lv_istore (lv' := [(9, .int ((v6 / (v4 / (10000 : Int64)))).toInt32), (4, .long (v4 / (10000 : Int64))), (0, .ref (ad 369)), (1, .int x1), (6, .long v6), (8, .int v8)]) hx hb dX6_runScript_109 hl (by decide) rfl (fun ls hl => ?_)
      refine lv_lload hx hb dX6_runScript_111 (lv_at hl 4 rfl) ?_
      refine lv_lload hx hb dX6_runScript_113 (lv_at hl 1 rfl) ?_
      obtain ⟨h_16, hf⟩ := chk_some hf
      refine lv_lrem hx hb dX6_runScript_115 (of_decide_eq_true h_16) ?_
      refine lv_lstore (lv' := [(6, .long (v6 - v6 / (v4 / (10000 : Int64)) * (v4 / (10000 : Int64)))), (9, .int ((v6 / (v4 / (10000 : Int64)))).toInt32), (4, .long (v4 / (10000 : Int64))), (0, .ref (ad 369)), (1, .int x1), (8, .int v8)]) hx hb dX6_runScript_116 hl (by decide) rfl (fun ls hl => ?_)
      refine lv_aload_n hx hb dX6_runScript_118 rfl (lv_at hl 3 rfl) ?_
      refine lv_iload hx hb dX6_runScript_119 (lv_at hl 1 rfl) ?_
      refine lv_sipush (v := (1000 : Int32)) hx hb dX6_runScript_121 (by decide) ?_
      refine lv_idiv hx hb dX6_runScript_124 (by decide) ?_
      refine lv_iload hx hb dX6_runScript_125 (lv_at hl 1 rfl) ?_
      refine lv_bipush (v := (100 : Int32)) hx hb dX6_runScript_127 (by decide) ?_
      refine lv_idiv hx hb dX6_runScript_129 (by decide) ?_
      refine lv_bipush (v := (10 : Int32)) hx hb dX6_runScript_130 (by decide) ?_
      refine lv_irem hx hb dX6_runScript_132 (by decide) ?_
      refine lv_iload hx hb dX6_runScript_133 (lv_at hl 1 rfl) ?_
      refine lv_bipush (v := (10 : Int32)) hx hb dX6_runScript_135 (by decide) ?_
      refine lv_idiv hx hb dX6_runScript_137 (by decide) ?_
      refine lv_bipush (v := (10 : Int32)) hx hb dX6_runScript_138 (by decide) ?_
      refine lv_irem hx hb dX6_runScript_140 (by decide) ?_
      refine lv_iload hx hb dX6_runScript_141 (lv_at hl 1 rfl) ?_
      refine lv_bipush (v := (10 : Int32)) hx hb dX6_runScript_143 (by decide) ?_
      refine lv_irem hx hb dX6_runScript_145 (by decide) ?_
      obtain ⟨r_17, S2, hq_18, hf⟩ := bd2_some hf
      refine kVi (id := 369) (As := [.int (((v6 / (v4 / (10000 : Int64)))).toInt32 / (1000 : Int32)), .int ((((v6 / (v4 / (10000 : Int64)))).toInt32 / (100 : Int32)) - (((v6 / (v4 / (10000 : Int64)))).toInt32 / (100 : Int32)) / (10 : Int32) * (10 : Int32)), .int ((((v6 / (v4 / (10000 : Int64)))).toInt32 / (10 : Int32)) - (((v6 / (v4 / (10000 : Int64)))).toInt32 / (10 : Int32)) / (10 : Int32) * (10 : Int32)), .int (((v6 / (v4 / (10000 : Int64)))).toInt32 - ((v6 / (v4 / (10000 : Int64)))).toInt32 / (10 : Int32) * (10 : Int32))]) (rest := []) X hR hS (zcX6_does l D cy ad ba O S1 (((v6 / (v4 / (10000 : Int64)))).toInt32 / (1000 : Int32)) ((((v6 / (v4 / (10000 : Int64)))).toInt32 / (100 : Int32)) - (((v6 / (v4 / (10000 : Int64)))).toInt32 / (100 : Int32)) / (10 : Int32) * (10 : Int32)) ((((v6 / (v4 / (10000 : Int64)))).toInt32 / (10 : Int32)) - (((v6 / (v4 / (10000 : Int64)))).toInt32 / (10 : Int32)) / (10 : Int32) * (10 : Int32)) (((v6 / (v4 / (10000 : Int64)))).toInt32 - ((v6 / (v4 / (10000 : Int64)))).toInt32 / (10 : Int32) * (10 : Int32)) _ _ hq_18) (cwV 4 X.2.2.2.2.2.1 gX6_runScript_X6_does rfl rfl rfl kdX6_does ⟨(Nat.le_of_ble_eq_true rfl), (Nat.le_of_ble_eq_true rfl)⟩) (by decide) rfl rfl rfl rfl hl.1 (Nat.le_of_ble_eq_true rfl) ⟨(Nat.le_of_ble_eq_true rfl), (Nat.le_of_ble_eq_true rfl)⟩ dX6_runScript_146 (fun H locs hR hS => ?_)
      refine lv_if_ne (tgt := 155) hx hb dX6_runScript_149 (by decide) (fun c_19 => ?_) (fun c_19 => ?_)
      · replace hf := ite_f c_19 hf
        refine lv_iinc (v := (v8 + (1 : Int32))) (lv' := [(8, .int (v8 + (1 : Int32))), (6, .long (v6 - v6 / (v4 / (10000 : Int64)) * (v4 / (10000 : Int64)))), (9, .int ((v6 / (v4 / (10000 : Int64)))).toInt32), (4, .long (v4 / (10000 : Int64))), (0, .ref (ad 369)), (1, .int x1)]) hx hb dX6_runScript_155 hl (k := 5) rfl rfl (by decide) rfl (fun ls hl => ?_)
        refine lv_goto (tgt := 89) hx hb dX6_runScript_158 (by decide) ?_
        exact ih S2 ((v4 / (10000 : Int64))) ((v6 - v6 / (v4 / (10000 : Int64)) * (v4 / (10000 : Int64)))) ((v8 + (1 : Int32))) _ _ _ hR hS (lv_sub hl [4, 5, 3, 1, 0] rfl) hf
      · replace hf := ite_t c_19 hf
        refine lv_iload hx hb dX6_runScript_152 (lv_at hl 5 rfl) ?_
        exact eI X hR hS (congrArg Prod.fst (Option.some.inj hf)) (congrArg Prod.snd (Option.some.inj hf)) dX6_runScript_154
set_option maxRecDepth 100000 in
set_option maxHeartbeats 4000000 in
theorem bX6_runScript_62 {p : Program} {l : Launch} {e : Env} {s : State} {m : MethodId} {args : Array Value} {below : List Frame} {meth : Method} {c : Code} {D : va_G} {cy : Nat → ClassId} {ad : Nat → Nat} {ba : Nat} {O : Int64} {S : teS}  {x1 : Int32} {x2 : Int64} {res : (Int32 × teS)} (X : teC wsX6_runScript RX6 cX6_runScript 10 (some .int) D cy ba p s m args meth c) : ∀ (S1 : teS) (v4 : Int64) (y0 : Int32) (H : Heap) (locs : List Loc) (ls : Array Slot), teR D cy ad ba O S1 H → va_S (teA ba) s.heap H locs → lv_has ls 10 [(0, .ref (ad 369)), (1, .int x1), (2, .long x2), (4, .long v4)] → fX6_runScript_62 x1 x2 S1 v4 y0 = some res → W p l e (headSpec wsX6_runScript rmX6_runScript).room s m args below meth c H locs 0 0 (MQ below (va_Qi (fun a (u : teS) => a = res.1 ∧ u = res.2) (fun u t => teR D cy ad ba O u t.heap) (teA ba)) args s 0 0 (teA ba)) (F0 m 62 ls [.int y0, .ref (ad 369)]) := by
  have hx := X.1
  have hb := X.2.1
  have hown := X.2.2.2.2.1
  intro S1 v4 y0 H locs ls hR hS hl hf
  unfold fX6_runScript_62 at hf
  obtain ⟨r_9, S2, hq_10, hf⟩ := bd2_some hf
  refine kVi (id := 369) (As := [.int y0]) (rest := []) X hR hS (zcX6_refused l D cy ad ba O S1 y0 _ _ hq_10) (cwV 1 X.2.2.2.2.2.1 gX6_runScript_X6_refused rfl rfl rfl kdX6_refused ⟨(Nat.le_of_ble_eq_true rfl), (Nat.le_of_ble_eq_true rfl)⟩) (by decide) rfl rfl rfl rfl hl.1 (Nat.le_of_ble_eq_true rfl) ⟨(Nat.le_of_ble_eq_true rfl), (Nat.le_of_ble_eq_true rfl)⟩ dX6_runScript_62 (fun H locs hR hS => ?_)
  refine lv_if_eq (tgt := 70) hx hb dX6_runScript_65 (by decide) (fun c_11 => ?_) (fun c_11 => ?_)
  · replace hf := ite_t c_11 hf
    refine lv_aload_n hx hb dX6_runScript_70 rfl (lv_at hl 0 rfl) ?_
    refine rg_6_5 X hR iX6_runScript_6 wX6_runScript_16 dX6_runScript_71 ?_
    refine lv_iconst (v := (0 : Int32)) hx hb dX6_runScript_74 (by decide) ?_
    refine lv_aload_n hx hb dX6_runScript_75 rfl (lv_at hl 0 rfl) ?_
    refine rg_6_6 X hR iX6_runScript_6 wX6_runScript_19 dX6_runScript_76 ?_
    refine lv_iconst (v := (0 : Int32)) hx hb dX6_runScript_79 (by decide) ?_
    obtain ⟨S3, hq_13, hf⟩ := bd1_some hf
    refine kSv (As := [.ref (ad 372), .int (0 : Int32), .ref (ad 373), .int (0 : Int32)]) (rest := []) X hR hS (zcX6_copyPage l D cy ad ba O S2 372 (0 : Int32) 373 (0 : Int32) rfl rfl _ hq_13) (va_cwS 4 X.2.2.2.2.2.1 gX6_runScript_X6_copyPage rfl rfl rfl kdX6_copyPage.2 ⟨(Nat.le_of_ble_eq_true rfl), (Nat.le_of_ble_eq_true rfl)⟩)  rfl rfl hl.1 (Nat.le_of_ble_eq_true rfl) ⟨(Nat.le_of_ble_eq_true rfl), (Nat.le_of_ble_eq_true rfl)⟩ dX6_runScript_80 (fun H locs hR hS => ?_)
    refine lv_lload_n hx hb dX6_runScript_83 rfl (lv_at hl 2 rfl) ?_
    refine lv_lstore (lv' := [(6, .long x2), (0, .ref (ad 369)), (1, .int x1), (2, .long x2), (4, .long v4)]) hx hb dX6_runScript_84 hl (by decide) rfl (fun ls hl => ?_)
    refine lv_iconst (v := (0 : Int32)) hx hb dX6_runScript_86 (by decide) ?_
    refine lv_istore (lv' := [(8, .int (0 : Int32)), (6, .long x2), (0, .ref (ad 369)), (1, .int x1), (2, .long x2), (4, .long v4)]) hx hb dX6_runScript_87 hl (by decide) rfl (fun ls hl => ?_)
    exact bX6_runScript_89 (S := S) (x1 := x1) (x2 := x2) X 2000 S3 (v4) (x2) ((0 : Int32)) _ _ _ hR hS (lv_sub hl [2, 3, 5, 1, 0] rfl) hf
  · replace hf := ite_f c_11 hf
    refine lv_iconst (v := (0 : Int32)) hx hb dX6_runScript_68 (by decide) ?_
    exact eI X hR hS (congrArg Prod.fst (Option.some.inj hf)) (congrArg Prod.snd (Option.some.inj hf)) dX6_runScript_69
set_option maxRecDepth 100000 in
set_option maxHeartbeats 4000000 in
theorem bX6_runScript_32 {p : Program} {l : Launch} {e : Env} {s : State} {m : MethodId} {args : Array Value} {below : List Frame} {meth : Method} {c : Code} {D : va_G} {cy : Nat → ClassId} {ad : Nat → Nat} {ba : Nat} {O : Int64} {S : teS}  {x1 : Int32} {x2 : Int64} {res : (Int32 × teS)} (X : teC wsX6_runScript RX6 cX6_runScript 10 (some .int) D cy ba p s m args meth c) : ∀ (S1 : teS) (v4 : Int64) (H : Heap) (locs : List Loc) (ls : Array Slot), teR D cy ad ba O S1 H → va_S (teA ba) s.heap H locs → lv_has ls 10 [(0, .ref (ad 369)), (1, .int x1), (2, .long x2), (4, .long v4)] → fX6_runScript_32 x1 x2 S1 v4 = some res → W p l e (headSpec wsX6_runScript rmX6_runScript).room s m args below meth c H locs 0 0 (MQ below (va_Qi (fun a (u : teS) => a = res.1 ∧ u = res.2) (fun u t => teR D cy ad ba O u t.heap) (teA ba)) args s 0 0 (teA ba)) (F0 m 32 ls []) := by
  have hx := X.1
  have hb := X.2.1
  have hown := X.2.2.2.2.1
  intro S1 v4 H locs ls hR hS hl hf
  unfold fX6_runScript_32 at hf
  refine lv_aload_n hx hb dX6_runScript_32 rfl (lv_at hl 0 rfl) ?_
  refine lv_iload_n hx hb dX6_runScript_33 rfl (lv_at hl 1 rfl) ?_
  refine lv_i2l hx hb dX6_runScript_34 rfl ?_
  refine lv_lconst (v := (1 : Int64)) hx hb dX6_runScript_35 (by decide) ?_
  refine lv_ldc2 (v := (4 : Int64)) hx hb hown (X.2.2.2.2.2.1 _ wX6_runScript_205) dX6_runScript_36 ?_
  obtain ⟨r_3, hq_4, hf⟩ := bd1_some hf
  refine kSi (As := [.long (x1).toInt64, .long (1 : Int64), .long (4 : Int64)]) (rest := [.ref (ad 369)]) X hR hS (zcX6_in l D cy ad ba O S1 ((x1).toInt64) (1 : Int64) (4 : Int64) _ hq_4) (va_cwS 3 X.2.2.2.2.2.1 gX6_runScript_X6_in rfl rfl rfl kdX6_in.2 ⟨(Nat.le_of_ble_eq_true rfl), (Nat.le_of_ble_eq_true rfl)⟩)  rfl rfl hl.1 (Nat.le_of_ble_eq_true rfl) ⟨(Nat.le_of_ble_eq_true rfl), (Nat.le_of_ble_eq_true rfl)⟩ dX6_runScript_39 (fun H locs hR hS => ?_)
  refine lv_if_eq (tgt := 61) hx hb dX6_runScript_42 (by decide) (fun c_5 => ?_) (fun c_5 => ?_)
  · replace hf := ite_t c_5 hf
    refine lv_iconst (v := (1 : Int32)) hx hb dX6_runScript_61 (by decide) ?_
    exact bX6_runScript_62 (S := S) (x1 := x1) (x2 := x2) X S1 (v4) ((1 : Int32)) _ _ _ hR hS (lv_sub hl [0, 1, 2, 3] rfl) hf
  · replace hf := ite_f c_5 hf
    refine lv_lload_n hx hb dX6_runScript_45 rfl (lv_at hl 2 rfl) ?_
    refine lv_lconst (v := (0 : Int64)) hx hb dX6_runScript_46 (by decide) ?_
    refine lv_lload hx hb dX6_runScript_47 (lv_at hl 3 rfl) ?_
    refine lv_lconst (v := (1 : Int64)) hx hb dX6_runScript_49 (by decide) ?_
    refine lv_lsub hx hb dX6_runScript_50 ?_
    obtain ⟨r_6, hq_7, hf⟩ := bd1_some hf
    refine kSi (As := [.long x2, .long (0 : Int64), .long (v4 - (1 : Int64))]) (rest := [.ref (ad 369)]) X hR hS (zcX6_in l D cy ad ba O S1 x2 (0 : Int64) (v4 - (1 : Int64)) _ hq_7) (va_cwS 3 X.2.2.2.2.2.1 gX6_runScript_X6_in rfl rfl rfl kdX6_in.2 ⟨(Nat.le_of_ble_eq_true rfl), (Nat.le_of_ble_eq_true rfl)⟩)  rfl rfl hl.1 (Nat.le_of_ble_eq_true rfl) ⟨(Nat.le_of_ble_eq_true rfl), (Nat.le_of_ble_eq_true rfl)⟩ dX6_runScript_51 (fun H locs hR hS => ?_)
    refine lv_if_eq (tgt := 61) hx hb dX6_runScript_54 (by decide) (fun c_8 => ?_) (fun c_8 => ?_)
    · replace hf := ite_t c_8 hf
      refine lv_iconst (v := (1 : Int32)) hx hb dX6_runScript_61 (by decide) ?_
      exact bX6_runScript_62 (S := S) (x1 := x1) (x2 := x2) X S1 (v4) ((1 : Int32)) _ _ _ hR hS (lv_sub hl [0, 1, 2, 3] rfl) hf
    · replace hf := ite_f c_8 hf
      refine lv_iconst (v := (0 : Int32)) hx hb dX6_runScript_57 (by decide) ?_
      refine lv_goto (tgt := 62) hx hb dX6_runScript_58 (by decide) ?_
      exact bX6_runScript_62 (S := S) (x1 := x1) (x2 := x2) X S1 (v4) ((0 : Int32)) _ _ _ hR hS (lv_sub hl [0, 1, 2, 3] rfl) hf
set_option maxRecDepth 100000 in
set_option maxHeartbeats 4000000 in
theorem bX6_runScript_6 {p : Program} {l : Launch} {e : Env} {s : State} {m : MethodId} {args : Array Value} {below : List Frame} {meth : Method} {c : Code} {D : va_G} {cy : Nat → ClassId} {ad : Nat → Nat} {ba : Nat} {O : Int64} {S : teS}  {x1 : Int32} {x2 : Int64} {res : (Int32 × teS)} (X : teC wsX6_runScript RX6 cX6_runScript 10 (some .int) D cy ba p s m args meth c) : ∀ (n : Nat), ∀ (S1 : teS) (v4 : Int64) (v6 : Int32) (H : Heap) (locs : List Loc) (ls : Array Slot), teR D cy ad ba O S1 H → va_S (teA ba) s.heap H locs → lv_has ls 10 [(0, .ref (ad 369)), (1, .int x1), (2, .long x2), (4, .long v4), (6, .int v6)] → fX6_runScript_6 x1 x2 n S1 v4 v6 = some res → W p l e (headSpec wsX6_runScript rmX6_runScript).room s m args below meth c H locs 0 0 (MQ below (va_Qi (fun a (u : teS) => a = res.1 ∧ u = res.2) (fun u t => teR D cy ad ba O u t.heap) (teA ba)) args s 0 0 (teA ba)) (F0 m 6 ls []) := by
  have hx := X.1
  have hb := X.2.1
  have hown := X.2.2.2.2.1
  intro n
  induction n with
  | zero =>
    intro S1 v4 v6 H locs ls hR hS hl hf
    exact nomatch hf
  | succ n ih =>
    intro S1 v4 v6 H locs ls hR hS hl hf
    unfold fX6_runScript_6 at hf
    refine lv_iload hx hb dX6_runScript_6 (lv_at hl 4 rfl) ?_
    refine lv_iload_n hx hb dX6_runScript_8 rfl (lv_at hl 1 rfl) ?_
    refine lv_icmp_ge (tgt := 32) hx hb dX6_runScript_9 (by decide) (fun c_1 => ?_) (fun c_1 => ?_)
    · replace hf := ite_t c_1 hf
      exact bX6_runScript_32 (S := S) (x1 := x1) (x2 := x2) X S1 (v4) _ _ _ hR hS (lv_sub hl [0, 1, 2, 3] rfl) hf
    · replace hf := ite_f c_1 hf
      refine lv_iload hx hb dX6_runScript_12 (lv_at hl 4 rfl) ?_
      refine lv_iconst (v := (4 : Int32)) hx hb dX6_runScript_14 (by decide) ?_
      refine lv_icmp_ge (tgt := 32) hx hb dX6_runScript_15 (by decide) (fun c_2 => ?_) (fun c_2 => ?_)
      · replace hf := ite_t c_2 hf
        exact bX6_runScript_32 (S := S) (x1 := x1) (x2 := x2) X S1 (v4) _ _ _ hR hS (lv_sub hl [0, 1, 2, 3] rfl) hf
      · replace hf := ite_f c_2 hf
        refine lv_lload hx hb dX6_runScript_18 (lv_at hl 3 rfl) ?_
        refine lv_ldc2 (v := (10000 : Int64)) hx hb hown (X.2.2.2.2.2.1 _ wX6_runScript_203) dX6_runScript_20 ?_
        refine lv_lmul hx hb dX6_runScript_23 ?_
        refine lv_lstore (lv' := [(4, .long (v4 * (10000 : Int64))), (0, .ref (ad 369)), (1, .int x1), (2, .long x2), (6, .int v6)]) hx hb dX6_runScript_24 hl (by decide) rfl (fun ls hl => ?_)
        refine lv_iinc (v := (v6 + (1 : Int32))) (lv' := [(6, .int (v6 + (1 : Int32))), (4, .long (v4 * (10000 : Int64))), (0, .ref (ad 369)), (1, .int x1), (2, .long x2)]) hx hb dX6_runScript_26 hl (k := 4) rfl rfl (by decide) rfl (fun ls hl => ?_)
        refine lv_goto (tgt := 6) hx hb dX6_runScript_29 (by decide) ?_
        exact ih S1 ((v4 * (10000 : Int64))) ((v6 + (1 : Int32))) _ _ _ hR hS (lv_sub hl [2, 3, 4, 1, 0] rfl) hf
set_option maxRecDepth 100000 in
set_option maxHeartbeats 4000000 in
theorem bX6_runScript_0 {p : Program} {l : Launch} {e : Env} {s : State} {m : MethodId} {args : Array Value} {below : List Frame} {meth : Method} {c : Code} {D : va_G} {cy : Nat → ClassId} {ad : Nat → Nat} {ba : Nat} {O : Int64} {S : teS}  {x1 : Int32} {x2 : Int64} {res : (Int32 × teS)} (X : teC wsX6_runScript RX6 cX6_runScript 10 (some .int) D cy ba p s m args meth c) (H : Heap) (locs : List Loc) (ls : Array Slot) (hR : teR D cy ad ba O S H) (hS : va_S (teA ba) s.heap H locs) (hl : lv_has ls 10 [(0, .ref (ad 369)), (1, .int x1), (2, .long x2)]) (hf : fX6_runScript x1 x2 S = some res) : W p l e (headSpec wsX6_runScript rmX6_runScript).room s m args below meth c H locs 0 0 (MQ below (va_Qi (fun a (u : teS) => a = res.1 ∧ u = res.2) (fun u t => teR D cy ad ba O u t.heap) (teA ba)) args s 0 0 (teA ba)) (F0 m 0 ls []) := by
  have hx := X.1
  have hb := X.2.1
  have hown := X.2.2.2.2.1
  unfold fX6_runScript at hf
  refine lv_lconst (v := (1 : Int64)) hx hb dX6_runScript_0 (by decide) ?_
  refine lv_lstore (lv' := [(4, .long (1 : Int64)), (0, .ref (ad 369)), (1, .int x1), (2, .long x2)]) hx hb dX6_runScript_1 hl (by decide) rfl (fun ls hl => ?_)
  refine lv_iconst (v := (0 : Int32)) hx hb dX6_runScript_3 (by decide) ?_
  refine lv_istore (lv' := [(6, .int (0 : Int32)), (4, .long (1 : Int64)), (0, .ref (ad 369)), (1, .int x1), (2, .long x2)]) hx hb dX6_runScript_4 hl (by decide) rfl (fun ls hl => ?_)
  exact bX6_runScript_6 (S := S) (x1 := x1) (x2 := x2) X 2000 S ((1 : Int64)) ((0 : Int32)) _ _ _ hR hS (lv_sub hl [2, 3, 4, 1, 0] rfl) hf
theorem zcX6_runScript (l : Launch) (D : va_G) (cy : Nat → ClassId) (ad : Nat → Nat) (ba : Nat) (O : Int64) (S : teS) (x1 : Int32) (x2 : Int64) (r : Int32) (S1 : teS) (hf : fX6_runScript x1 x2 S = some (r, S1)) : cI l yX6_runScript wsX6_runScript rmX6_runScript D cy ad ba O S [.ref (ad 369), .int x1, .long x2] r S1 :=
  te_of (by decide) rfl (Nat.le_of_ble_eq_true rfl) (fun p e s m below meth c ls X hR hS hl => bX6_runScript_0 (res := (r, S1)) (S := S) (x1 := x1) (x2 := x2) X _ _ _ hR hS hl hf)
abbrev rmX6_simulate : Room := { frames := 5, cells := 0, slots := 0, locals := 115 }
theorem kdX6_simulate : yX6_simulate.cls = RX6 ∧ yX6_simulate.cls ≠ "java/lang/invoke/MethodHandle" ∧ yX6_simulate.cls ≠ "java/lang/invoke/VarHandle" ∧ (parseMethodDescriptor yX6_simulate.desc).map (fun d => d.parameters.length) = some 2 := by decide +kernel
theorem wX6_simulate_199 : Cond.constantLong RX6 199 (60) ∈ wsX6_simulate := by decide +kernel
theorem wX6_simulate_16 : Cond.fieldLink RX6 16 "TandemExchangeModel" "now" "[I" ∈ wsX6_simulate := by decide +kernel
theorem iX6_simulate_6 : ∀ w ∈ wsX60, w ∈ wsX6_simulate := by decide +kernel
theorem wX6_simulate_19 : Cond.fieldLink RX6 19 "TandemExchangeModel" "trial" "[I" ∈ wsX6_simulate := by decide +kernel
theorem wX6_simulate_211 : Cond.constantLong RX6 211 (6364136223846793005) ∈ wsX6_simulate := by decide +kernel
theorem wX6_simulate_213 : Cond.constantLong RX6 213 (1442695040888963407) ∈ wsX6_simulate := by decide +kernel
set_option maxRecDepth 100000 in
set_option maxHeartbeats 4000000 in
theorem bX6_simulate_89 {p : Program} {l : Launch} {e : Env} {s : State} {m : MethodId} {args : Array Value} {below : List Frame} {meth : Method} {c : Code} {D : va_G} {cy : Nat → ClassId} {ad : Nat → Nat} {ba : Nat} {O : Int64} {S : teS}  {x1 : Int64} {x3 : Int32} {res : (Int32 × teS)} (X : teC wsX6_simulate RX6 cX6_simulate 9 (some .int) D cy ba p s m args meth c) {q45 : teS → Int64 → Int32 → Option (Int32 × teS)} (hq45 : ∀ (S1 : teS) (v4 : Int64) (v6 : Int32) (H : Heap) (locs : List Loc) (ls : Array Slot), teR D cy ad ba O S1 H → va_S (teA ba) s.heap H locs → lv_has ls 9 [(0, .ref (ad 369)), (3, .int x3), (4, .long v4), (6, .int v6)] → q45 S1 v4 v6 = some res → W p l e (headSpec wsX6_simulate rmX6_simulate).room s m args below meth c H locs 0 0 (MQ below (va_Qi (fun a (u : teS) => a = res.1 ∧ u = res.2) (fun u t => teR D cy ad ba O u t.heap) (teA ba)) args s 0 0 (teA ba)) (F0 m 45 ls [])) : ∀ (S1 : teS) (v4 : Int64) (v6 : Int32) (v7 : Int32) (y0 : Int32) (H : Heap) (locs : List Loc) (ls : Array Slot), teR D cy ad ba O S1 H → va_S (teA ba) s.heap H locs → lv_has ls 9 [(0, .ref (ad 369)), (3, .int x3), (4, .long v4), (6, .int v6), (7, .int v7)] → fX6_simulate_89 x1 x3 q45 S1 v4 v6 v7 y0 = some res → W p l e (headSpec wsX6_simulate rmX6_simulate).room s m args below meth c H locs 0 0 (MQ below (va_Qi (fun a (u : teS) => a = res.1 ∧ u = res.2) (fun u t => teR D cy ad ba O u t.heap) (teA ba)) args s 0 0 (teA ba)) (F0 m 89 ls [.int y0]) := by
  have hx := X.1
  have hb := X.2.1
  have hown := X.2.2.2.2.1
  intro S1 v4 v6 v7 y0 H locs ls hR hS hl hf
  unfold fX6_simulate_89 at hf
  refine lv_istore (lv' := [(8, .int y0), (0, .ref (ad 369)), (3, .int x3), (4, .long v4), (6, .int v6), (7, .int v7)]) hx hb dX6_simulate_89 hl (by decide) rfl (fun ls hl => ?_)
  refine lv_aload_n hx hb dX6_simulate_91 rfl (lv_at hl 1 rfl) ?_
  refine rg_6_6 X hR iX6_simulate_6 wX6_simulate_19 dX6_simulate_92 ?_
  refine lv_iload hx hb dX6_simulate_95 (lv_at hl 0 rfl) ?_
  refine lv_if_lt (tgt := 111) hx hb dX6_simulate_97 (by decide) (fun c_15 => ?_) (fun c_15 => ?_)
  · replace hf := ite_t c_15 hf
    refine lv_iconst (v := (0 : Int32)) hx hb dX6_simulate_111 (by decide) ?_
    obtain ⟨S2, hq_17, hf⟩ := bd1_some hf
    refine kSv (As := [.ref (ad 373), .int (0 : Int32)]) (rest := []) X hR hS (zcX6_weekOn l D cy ad ba O S1 373 (0 : Int32) rfl _ hq_17) (va_cwS 2 X.2.2.2.2.2.1 gX6_simulate_X6_weekOn rfl rfl rfl kdX6_weekOn.2 ⟨(Nat.le_of_ble_eq_true rfl), (Nat.le_of_ble_eq_true rfl)⟩)  rfl rfl hl.1 (Nat.le_of_ble_eq_true rfl) ⟨(Nat.le_of_ble_eq_true rfl), (Nat.le_of_ble_eq_true rfl)⟩ dX6_simulate_112 (fun H locs hR hS => ?_)
    refine lv_iinc (v := (v6 + (1 : Int32))) (lv' := [(6, .int (v6 + (1 : Int32))), (8, .int y0), (0, .ref (ad 369)), (3, .int x3), (4, .long v4), (7, .int v7)]) hx hb dX6_simulate_115 hl (k := 4) rfl rfl (by decide) rfl (fun ls hl => ?_)
    refine lv_goto (tgt := 45) hx hb dX6_simulate_118 (by decide) ?_
    exact hq45 S2 (v4) ((v6 + (1 : Int32))) _ _ _ hR hS (lv_sub hl [2, 3, 4, 0] rfl) hf
  · replace hf := ite_f c_15 hf
    refine lv_iload hx hb dX6_simulate_100 (lv_at hl 5 rfl) ?_
    refine lv_iconst (v := (4 : Int32)) hx hb dX6_simulate_102 (by decide) ?_
    refine lv_idiv hx hb dX6_simulate_103 (by decide) ?_
    refine lv_sipush (v := (512 : Int32)) hx hb dX6_simulate_104 (by decide) ?_
    refine lv_irem hx hb dX6_simulate_107 (by decide) ?_
    refine lv_goto (tgt := 112) hx hb dX6_simulate_108 (by decide) ?_
    obtain ⟨S3, hq_19, hf⟩ := bd1_some hf
    refine kSv (As := [.ref (ad 373), .int ((v7 / (4 : Int32)) - (v7 / (4 : Int32)) / (512 : Int32) * (512 : Int32))]) (rest := []) X hR hS (zcX6_weekOn l D cy ad ba O S1 373 ((v7 / (4 : Int32)) - (v7 / (4 : Int32)) / (512 : Int32) * (512 : Int32)) rfl _ hq_19) (va_cwS 2 X.2.2.2.2.2.1 gX6_simulate_X6_weekOn rfl rfl rfl kdX6_weekOn.2 ⟨(Nat.le_of_ble_eq_true rfl), (Nat.le_of_ble_eq_true rfl)⟩)  rfl rfl hl.1 (Nat.le_of_ble_eq_true rfl) ⟨(Nat.le_of_ble_eq_true rfl), (Nat.le_of_ble_eq_true rfl)⟩ dX6_simulate_112 (fun H locs hR hS => ?_)
    refine lv_iinc (v := (v6 + (1 : Int32))) (lv' := [(6, .int (v6 + (1 : Int32))), (8, .int y0), (0, .ref (ad 369)), (3, .int x3), (4, .long v4), (7, .int v7)]) hx hb dX6_simulate_115 hl (k := 4) rfl rfl (by decide) rfl (fun ls hl => ?_)
    refine lv_goto (tgt := 45) hx hb dX6_simulate_118 (by decide) ?_
    exact hq45 S3 (v4) ((v6 + (1 : Int32))) _ _ _ hR hS (lv_sub hl [2, 3, 4, 0] rfl) hf
set_option maxRecDepth 100000 in
set_option maxHeartbeats 4000000 in
theorem bX6_simulate_45 {p : Program} {l : Launch} {e : Env} {s : State} {m : MethodId} {args : Array Value} {below : List Frame} {meth : Method} {c : Code} {D : va_G} {cy : Nat → ClassId} {ad : Nat → Nat} {ba : Nat} {O : Int64} {S : teS}  {x1 : Int64} {x3 : Int32} {res : (Int32 × teS)} (X : teC wsX6_simulate RX6 cX6_simulate 9 (some .int) D cy ba p s m args meth c) : ∀ (n : Nat), ∀ (S1 : teS) (v4 : Int64) (v6 : Int32) (H : Heap) (locs : List Loc) (ls : Array Slot), teR D cy ad ba O S1 H → va_S (teA ba) s.heap H locs → lv_has ls 9 [(0, .ref (ad 369)), (3, .int x3), (4, .long v4), (6, .int v6)] → fX6_simulate_45 x1 x3 n S1 v4 v6 = some res → W p l e (headSpec wsX6_simulate rmX6_simulate).room s m args below meth c H locs 0 0 (MQ below (va_Qi (fun a (u : teS) => a = res.1 ∧ u = res.2) (fun u t => teR D cy ad ba O u t.heap) (teA ba)) args s 0 0 (teA ba)) (F0 m 45 ls []) := by
  have hx := X.1
  have hb := X.2.1
  have hown := X.2.2.2.2.1
  intro n
  induction n with
  | zero =>
    intro S1 v4 v6 H locs ls hR hS hl hf
    exact nomatch hf
  | succ n ih =>
    intro S1 v4 v6 H locs ls hR hS hl hf
    unfold fX6_simulate_45 at hf
    refine lv_iload hx hb dX6_simulate_45 (lv_at hl 3 rfl) ?_
    refine lv_iload_n hx hb dX6_simulate_47 rfl (lv_at hl 1 rfl) ?_
    refine lv_icmp_ge (tgt := 121) hx hb dX6_simulate_48 (by decide) (fun c_9 => ?_) (fun c_9 => ?_)
    · replace hf := ite_t c_9 hf
      refine lv_aload_n hx hb dX6_simulate_121 rfl (lv_at hl 0 rfl) ?_
      refine rg_6_6 X hR iX6_simulate_6 wX6_simulate_19 dX6_simulate_122 ?_
      obtain ⟨r_10, hq_11, hf⟩ := bd1_some hf
      refine kSi (As := [.ref (ad 373)]) (rest := []) X hR hS (zcX6_creditsOf l D cy ad ba O S1 373 rfl _ hq_11) (va_cwS 1 X.2.2.2.2.2.1 gX6_simulate_X6_creditsOf rfl rfl rfl kdX6_creditsOf.2 ⟨(Nat.le_of_ble_eq_true rfl), (Nat.le_of_ble_eq_true rfl)⟩)  rfl rfl hl.1 (Nat.le_of_ble_eq_true rfl) ⟨(Nat.le_of_ble_eq_true rfl), (Nat.le_of_ble_eq_true rfl)⟩ dX6_simulate_125 (fun H locs hR hS => ?_)
      exact eI X hR hS (congrArg Prod.fst (Option.some.inj hf)) (congrArg Prod.snd (Option.some.inj hf)) dX6_simulate_128
    · replace hf := ite_f c_9 hf
      refine lv_lload hx hb dX6_simulate_51 (lv_at hl 2 rfl) ?_
      refine lv_ldc2 (v := (6364136223846793005 : Int64)) hx hb hown (X.2.2.2.2.2.1 _ wX6_simulate_211) dX6_simulate_53 ?_
      refine lv_lmul hx hb dX6_simulate_56 ?_
      refine lv_ldc2 (v := (1442695040888963407 : Int64)) hx hb hown (X.2.2.2.2.2.1 _ wX6_simulate_213) dX6_simulate_57 ?_
      refine lv_ladd hx hb dX6_simulate_60 ?_
      refine lv_lstore (lv' := [(4, .long ((v4 * (6364136223846793005 : Int64)) + (1442695040888963407 : Int64))), (0, .ref (ad 369)), (3, .int x3), (6, .int v6)]) hx hb dX6_simulate_61 hl (by decide) rfl (fun ls hl => ?_)
      refine lv_lload hx hb dX6_simulate_63 (lv_at hl 0 rfl) ?_
      refine lv_bipush (v := (33 : Int32)) hx hb dX6_simulate_65 (by decide) ?_
      refine lv_lushr hx hb dX6_simulate_67 rfl ?_
      refine lv_l2i hx hb dX6_simulate_68 rfl ?_
      refine lv_istore (lv' := [(7, .int (((((v4 * (6364136223846793005 : Int64)) + (1442695040888963407 : Int64))).toUInt64 >>> (((33 : Int32)).toInt64.toUInt64 &&& Int64.toUInt64 63)).toInt64).toInt32), (4, .long ((v4 * (6364136223846793005 : Int64)) + (1442695040888963407 : Int64))), (0, .ref (ad 369)), (3, .int x3), (6, .int v6)]) hx hb dX6_simulate_69 hl (by decide) rfl (fun ls hl => ?_)
      refine lv_iload hx hb dX6_simulate_71 (lv_at hl 0 rfl) ?_
      refine lv_iconst (v := (4 : Int32)) hx hb dX6_simulate_73 (by decide) ?_
      refine lv_irem hx hb dX6_simulate_74 (by decide) ?_
      refine lv_if_ne (tgt := 88) hx hb dX6_simulate_75 (by decide) (fun c_12 => ?_) (fun c_12 => ?_)
      · replace hf := ite_f c_12 hf
        refine lv_iconst (v := (0 : Int32)) hx hb dX6_simulate_88 (by decide) ?_
        exact bX6_simulate_89 (S := S) (x1 := x1) (x3 := x3) X ih S1 (((v4 * (6364136223846793005 : Int64)) + (1442695040888963407 : Int64))) (v6) ((((((v4 * (6364136223846793005 : Int64)) + (1442695040888963407 : Int64))).toUInt64 >>> (((33 : Int32)).toInt64.toUInt64 &&& Int64.toUInt64 63)).toInt64).toInt32) ((0 : Int32)) _ _ _ hR hS (lv_sub hl [2, 3, 1, 4, 0] rfl) hf
      · replace hf := ite_t c_12 hf
        refine lv_aload_n hx hb dX6_simulate_78 rfl (lv_at hl 2 rfl) ?_
        refine rg_6_6 X hR iX6_simulate_6 wX6_simulate_19 dX6_simulate_79 ?_
        obtain ⟨r_13, S2, hq_14, hf⟩ := bd2_some hf
        refine kSi (As := [.ref (ad 373)]) (rest := []) X hR hS (zcX6_matchOn l D cy ad ba O S1 373 rfl _ _ hq_14) (va_cwS 1 X.2.2.2.2.2.1 gX6_simulate_X6_matchOn rfl rfl rfl kdX6_matchOn.2 ⟨(Nat.le_of_ble_eq_true rfl), (Nat.le_of_ble_eq_true rfl)⟩)  rfl rfl hl.1 (Nat.le_of_ble_eq_true rfl) ⟨(Nat.le_of_ble_eq_true rfl), (Nat.le_of_ble_eq_true rfl)⟩ dX6_simulate_82 (fun H locs hR hS => ?_)
        refine lv_goto (tgt := 89) hx hb dX6_simulate_85 (by decide) ?_
        exact bX6_simulate_89 (S := S) (x1 := x1) (x3 := x3) X ih S2 (((v4 * (6364136223846793005 : Int64)) + (1442695040888963407 : Int64))) (v6) ((((((v4 * (6364136223846793005 : Int64)) + (1442695040888963407 : Int64))).toUInt64 >>> (((33 : Int32)).toInt64.toUInt64 &&& Int64.toUInt64 63)).toInt64).toInt32) (r_13) _ _ _ hR hS (lv_sub hl [2, 3, 1, 4, 0] rfl) hf
set_option maxRecDepth 100000 in
set_option maxHeartbeats 4000000 in
theorem bX6_simulate_18 {p : Program} {l : Launch} {e : Env} {s : State} {m : MethodId} {args : Array Value} {below : List Frame} {meth : Method} {c : Code} {D : va_G} {cy : Nat → ClassId} {ad : Nat → Nat} {ba : Nat} {O : Int64} {S : teS}  {x1 : Int64} {x3 : Int32} {res : (Int32 × teS)} (X : teC wsX6_simulate RX6 cX6_simulate 9 (some .int) D cy ba p s m args meth c) : ∀ (S1 : teS) (y0 : Int32) (H : Heap) (locs : List Loc) (ls : Array Slot), teR D cy ad ba O S1 H → va_S (teA ba) s.heap H locs → lv_has ls 9 [(0, .ref (ad 369)), (1, .long x1), (3, .int x3)] → fX6_simulate_18 x1 x3 S1 y0 = some res → W p l e (headSpec wsX6_simulate rmX6_simulate).room s m args below meth c H locs 0 0 (MQ below (va_Qi (fun a (u : teS) => a = res.1 ∧ u = res.2) (fun u t => teR D cy ad ba O u t.heap) (teA ba)) args s 0 0 (teA ba)) (F0 m 18 ls [.int y0, .ref (ad 369)]) := by
  have hx := X.1
  have hb := X.2.1
  have hown := X.2.2.2.2.1
  intro S1 y0 H locs ls hR hS hl hf
  unfold fX6_simulate_18 at hf
  obtain ⟨r_4, S2, hq_5, hf⟩ := bd2_some hf
  refine kVi (id := 369) (As := [.int y0]) (rest := []) X hR hS (zcX6_refused l D cy ad ba O S1 y0 _ _ hq_5) (cwV 1 X.2.2.2.2.2.1 gX6_simulate_X6_refused rfl rfl rfl kdX6_refused ⟨(Nat.le_of_ble_eq_true rfl), (Nat.le_of_ble_eq_true rfl)⟩) (by decide) rfl rfl rfl rfl hl.1 (Nat.le_of_ble_eq_true rfl) ⟨(Nat.le_of_ble_eq_true rfl), (Nat.le_of_ble_eq_true rfl)⟩ dX6_simulate_18 (fun H locs hR hS => ?_)
  refine lv_if_eq (tgt := 26) hx hb dX6_simulate_21 (by decide) (fun c_6 => ?_) (fun c_6 => ?_)
  · replace hf := ite_t c_6 hf
    refine lv_aload_n hx hb dX6_simulate_26 rfl (lv_at hl 0 rfl) ?_
    refine rg_6_5 X hR iX6_simulate_6 wX6_simulate_16 dX6_simulate_27 ?_
    refine lv_iconst (v := (0 : Int32)) hx hb dX6_simulate_30 (by decide) ?_
    refine lv_aload_n hx hb dX6_simulate_31 rfl (lv_at hl 0 rfl) ?_
    refine rg_6_6 X hR iX6_simulate_6 wX6_simulate_19 dX6_simulate_32 ?_
    refine lv_iconst (v := (0 : Int32)) hx hb dX6_simulate_35 (by decide) ?_
    obtain ⟨S3, hq_8, hf⟩ := bd1_some hf
    refine kSv (As := [.ref (ad 372), .int (0 : Int32), .ref (ad 373), .int (0 : Int32)]) (rest := []) X hR hS (zcX6_copyPage l D cy ad ba O S2 372 (0 : Int32) 373 (0 : Int32) rfl rfl _ hq_8) (va_cwS 4 X.2.2.2.2.2.1 gX6_simulate_X6_copyPage rfl rfl rfl kdX6_copyPage.2 ⟨(Nat.le_of_ble_eq_true rfl), (Nat.le_of_ble_eq_true rfl)⟩)  rfl rfl hl.1 (Nat.le_of_ble_eq_true rfl) ⟨(Nat.le_of_ble_eq_true rfl), (Nat.le_of_ble_eq_true rfl)⟩ dX6_simulate_36 (fun H locs hR hS => ?_)
    refine lv_lload_n hx hb dX6_simulate_39 rfl (lv_at hl 1 rfl) ?_
    refine lv_lstore (lv' := [(4, .long x1), (0, .ref (ad 369)), (1, .long x1), (3, .int x3)]) hx hb dX6_simulate_40 hl (by decide) rfl (fun ls hl => ?_)
    refine lv_iconst (v := (0 : Int32)) hx hb dX6_simulate_42 (by decide) ?_
    refine lv_istore (lv' := [(6, .int (0 : Int32)), (4, .long x1), (0, .ref (ad 369)), (1, .long x1), (3, .int x3)]) hx hb dX6_simulate_43 hl (by decide) rfl (fun ls hl => ?_)
    exact bX6_simulate_45 (S := S) (x1 := x1) (x3 := x3) X 2000 S3 (x1) ((0 : Int32)) _ _ _ hR hS (lv_sub hl [2, 4, 1, 0] rfl) hf
  · replace hf := ite_f c_6 hf
    refine lv_iconst (v := (0 : Int32)) hx hb dX6_simulate_24 (by decide) ?_
    exact eI X hR hS (congrArg Prod.fst (Option.some.inj hf)) (congrArg Prod.snd (Option.some.inj hf)) dX6_simulate_25
set_option maxRecDepth 100000 in
set_option maxHeartbeats 4000000 in
theorem bX6_simulate_0 {p : Program} {l : Launch} {e : Env} {s : State} {m : MethodId} {args : Array Value} {below : List Frame} {meth : Method} {c : Code} {D : va_G} {cy : Nat → ClassId} {ad : Nat → Nat} {ba : Nat} {O : Int64} {S : teS}  {x1 : Int64} {x3 : Int32} {res : (Int32 × teS)} (X : teC wsX6_simulate RX6 cX6_simulate 9 (some .int) D cy ba p s m args meth c) (H : Heap) (locs : List Loc) (ls : Array Slot) (hR : teR D cy ad ba O S H) (hS : va_S (teA ba) s.heap H locs) (hl : lv_has ls 9 [(0, .ref (ad 369)), (1, .long x1), (3, .int x3)]) (hf : fX6_simulate x1 x3 S = some res) : W p l e (headSpec wsX6_simulate rmX6_simulate).room s m args below meth c H locs 0 0 (MQ below (va_Qi (fun a (u : teS) => a = res.1 ∧ u = res.2) (fun u t => teR D cy ad ba O u t.heap) (teA ba)) args s 0 0 (teA ba)) (F0 m 0 ls []) := by
  have hx := X.1
  have hb := X.2.1
  have hown := X.2.2.2.2.1
  unfold fX6_simulate at hf
  refine lv_aload_n hx hb dX6_simulate_0 rfl (lv_at hl 0 rfl) ?_
  refine lv_iload_n hx hb dX6_simulate_1 rfl (lv_at hl 2 rfl) ?_
  refine lv_i2l hx hb dX6_simulate_2 rfl ?_
  refine lv_lconst (v := (1 : Int64)) hx hb dX6_simulate_3 (by decide) ?_
  refine lv_ldc2 (v := (60 : Int64)) hx hb hown (X.2.2.2.2.2.1 _ wX6_simulate_199) dX6_simulate_4 ?_
  obtain ⟨r_1, hq_2, hf⟩ := bd1_some hf
  refine kSi (As := [.long (x3).toInt64, .long (1 : Int64), .long (60 : Int64)]) (rest := [.ref (ad 369)]) X hR hS (zcX6_in l D cy ad ba O S ((x3).toInt64) (1 : Int64) (60 : Int64) _ hq_2) (va_cwS 3 X.2.2.2.2.2.1 gX6_simulate_X6_in rfl rfl rfl kdX6_in.2 ⟨(Nat.le_of_ble_eq_true rfl), (Nat.le_of_ble_eq_true rfl)⟩)  rfl rfl hl.1 (Nat.le_of_ble_eq_true rfl) ⟨(Nat.le_of_ble_eq_true rfl), (Nat.le_of_ble_eq_true rfl)⟩ dX6_simulate_7 (fun H locs hR hS => ?_)
  refine lv_if_eq (tgt := 17) hx hb dX6_simulate_10 (by decide) (fun c_3 => ?_) (fun c_3 => ?_)
  · replace hf := ite_t c_3 hf
    refine lv_iconst (v := (1 : Int32)) hx hb dX6_simulate_17 (by decide) ?_
    exact bX6_simulate_18 (S := S) (x1 := x1) (x3 := x3) X S ((1 : Int32)) _ _ _ hR hS (lv_sub hl [0, 1, 2] rfl) hf
  · replace hf := ite_f c_3 hf
    refine lv_iconst (v := (0 : Int32)) hx hb dX6_simulate_13 (by decide) ?_
    refine lv_goto (tgt := 18) hx hb dX6_simulate_14 (by decide) ?_
    exact bX6_simulate_18 (S := S) (x1 := x1) (x3 := x3) X S ((0 : Int32)) _ _ _ hR hS (lv_sub hl [0, 1, 2] rfl) hf
theorem zcX6_simulate (l : Launch) (D : va_G) (cy : Nat → ClassId) (ad : Nat → Nat) (ba : Nat) (O : Int64) (S : teS) (x1 : Int64) (x3 : Int32) (r : Int32) (S1 : teS) (hf : fX6_simulate x1 x3 S = some (r, S1)) : cI l yX6_simulate wsX6_simulate rmX6_simulate D cy ad ba O S [.ref (ad 369), .long x1, .int x3] r S1 :=
  te_of (by decide) rfl (Nat.le_of_ble_eq_true rfl) (fun p e s m below meth c ls X hR hS hl => bX6_simulate_0 (res := (r, S1)) (S := S) (x1 := x1) (x3 := x3) X _ _ _ hR hS hl hf)
abbrev rmX6_save : Room := { frames := 1, cells := 0, slots := 0, locals := 25 }
theorem kdX6_save : yX6_save.cls = RX6 ∧ yX6_save.cls ≠ "java/lang/invoke/MethodHandle" ∧ yX6_save.cls ≠ "java/lang/invoke/VarHandle" ∧ (parseMethodDescriptor yX6_save.desc).map (fun d => d.parameters.length) = some 1 := by decide +kernel
theorem wX6_save_28 : Cond.fieldLink RX6 28 "TandemExchangeModel" "isKept" "[Z" ∈ wsX6_save := by decide +kernel
theorem iX6_save_6 : ∀ w ∈ wsX60, w ∈ wsX6_save := fun _ h => List.mem_cons_of_mem _ (List.mem_append_right _ h)
theorem wX6_save_16 : Cond.fieldLink RX6 16 "TandemExchangeModel" "now" "[I" ∈ wsX6_save := by decide +kernel
theorem wX6_save_25 : Cond.fieldLink RX6 25 "TandemExchangeModel" "kept" "[I" ∈ wsX6_save := by decide +kernel
set_option maxRecDepth 100000 in
set_option maxHeartbeats 4000000 in
theorem bX6_save_16 {p : Program} {l : Launch} {e : Env} {s : State} {m : MethodId} {args : Array Value} {below : List Frame} {meth : Method} {c : Code} {D : va_G} {cy : Nat → ClassId} {ad : Nat → Nat} {ba : Nat} {O : Int64} {S : teS}  {x1 : Int32} {res : (Int32 × teS)} (X : teC wsX6_save RX6 cX6_save 2 (some .int) D cy ba p s m args meth c) : ∀ (S1 : teS) (y0 : Int32) (H : Heap) (locs : List Loc) (ls : Array Slot), teR D cy ad ba O S1 H → va_S (teA ba) s.heap H locs → lv_has ls 2 [(0, .ref (ad 369)), (1, .int x1)] → fX6_save_16 x1 S1 y0 = some res → W p l e (headSpec wsX6_save rmX6_save).room s m args below meth c H locs 0 0 (MQ below (va_Qi (fun a (u : teS) => a = res.1 ∧ u = res.2) (fun u t => teR D cy ad ba O u t.heap) (teA ba)) args s 0 0 (teA ba)) (F0 m 16 ls [.int y0, .ref (ad 369)]) := by
  have hx := X.1
  have hb := X.2.1
  have hown := X.2.2.2.2.1
  intro S1 y0 H locs ls hR hS hl hf
  unfold fX6_save_16 at hf
  obtain ⟨r_4, S2, hq_5, hf⟩ := bd2_some hf
  refine kVi (id := 369) (As := [.int y0]) (rest := []) X hR hS (zcX6_refused l D cy ad ba O S1 y0 _ _ hq_5) (cwV 1 X.2.2.2.2.2.1 gX6_save_X6_refused rfl rfl rfl kdX6_refused ⟨(Nat.le_of_ble_eq_true rfl), (Nat.le_of_ble_eq_true rfl)⟩) (by decide) rfl rfl rfl rfl hl.1 (Nat.le_of_ble_eq_true rfl) ⟨(Nat.le_of_ble_eq_true rfl), (Nat.le_of_ble_eq_true rfl)⟩ dX6_save_16 (fun H locs hR hS => ?_)
  refine lv_if_eq (tgt := 24) hx hb dX6_save_19 (by decide) (fun c_6 => ?_) (fun c_6 => ?_)
  · replace hf := ite_t c_6 hf
    refine lv_aload_n hx hb dX6_save_24 rfl (lv_at hl 0 rfl) ?_
    refine rg_6_10 X hR iX6_save_6 wX6_save_28 dX6_save_25 ?_
    refine lv_iload_n hx hb dX6_save_28 rfl (lv_at hl 1 rfl) ?_
    refine lv_iconst (v := (1 : Int32)) hx hb dX6_save_29 (by decide) ?_
    obtain ⟨h_7, hf⟩ := chk_some hf
    refine rs_z376 X hR hS h_7 dX6_save_30 (fun H locs hR hS => ?_)
    generalize teu S2 376 x1.toNatClampNeg (vp_nar .boolean (1 : Int32)) = S3 at hf hR
    replace hf := lt1_e hf
    refine lv_aload_n hx hb dX6_save_31 rfl (lv_at hl 0 rfl) ?_
    refine rg_6_5 X hR iX6_save_6 wX6_save_16 dX6_save_32 ?_
    refine lv_iconst (v := (0 : Int32)) hx hb dX6_save_35 (by decide) ?_
    refine lv_aload_n hx hb dX6_save_36 rfl (lv_at hl 0 rfl) ?_
    refine rg_6_9 X hR iX6_save_6 wX6_save_25 dX6_save_37 ?_
    refine lv_bipush (v := (92 : Int32)) hx hb dX6_save_40 (by decide) ?_
    refine lv_iload_n hx hb dX6_save_42 rfl (lv_at hl 1 rfl) ?_
    refine lv_imul hx hb dX6_save_43 ?_
    obtain ⟨S4, hq_9, hf⟩ := bd1_some hf
    refine kSv (As := [.ref (ad 372), .int (0 : Int32), .ref (ad 375), .int ((92 : Int32) * x1)]) (rest := []) X hR hS (zcX6_copyPage l D cy ad ba O S3 372 (0 : Int32) 375 ((92 : Int32) * x1) rfl rfl _ hq_9) (va_cwS 4 X.2.2.2.2.2.1 gX6_save_X6_copyPage rfl rfl rfl kdX6_copyPage.2 ⟨(Nat.le_of_ble_eq_true rfl), (Nat.le_of_ble_eq_true rfl)⟩)  rfl rfl hl.1 (Nat.le_of_ble_eq_true rfl) ⟨(Nat.le_of_ble_eq_true rfl), (Nat.le_of_ble_eq_true rfl)⟩ dX6_save_44 (fun H locs hR hS => ?_)
    refine lv_aload_n hx hb dX6_save_47 rfl (lv_at hl 0 rfl) ?_
    refine rg_6_5 X hR iX6_save_6 wX6_save_16 dX6_save_48 ?_
    refine lv_iconst (v := (1 : Int32)) hx hb dX6_save_51 (by decide) ?_
    obtain ⟨h_10, hf⟩ := chk_some hf
    refine ra_int X hR (r := 372) rfl h_10 dX6_save_52 ?_
    exact eI X hR hS (congrArg Prod.fst (Option.some.inj hf)) (congrArg Prod.snd (Option.some.inj hf)) dX6_save_53
  · replace hf := ite_f c_6 hf
    refine lv_iconst (v := (0 : Int32)) hx hb dX6_save_22 (by decide) ?_
    exact eI X hR hS (congrArg Prod.fst (Option.some.inj hf)) (congrArg Prod.snd (Option.some.inj hf)) dX6_save_23
set_option maxRecDepth 100000 in
set_option maxHeartbeats 4000000 in
theorem bX6_save_0 {p : Program} {l : Launch} {e : Env} {s : State} {m : MethodId} {args : Array Value} {below : List Frame} {meth : Method} {c : Code} {D : va_G} {cy : Nat → ClassId} {ad : Nat → Nat} {ba : Nat} {O : Int64} {S : teS}  {x1 : Int32} {res : (Int32 × teS)} (X : teC wsX6_save RX6 cX6_save 2 (some .int) D cy ba p s m args meth c) (H : Heap) (locs : List Loc) (ls : Array Slot) (hR : teR D cy ad ba O S H) (hS : va_S (teA ba) s.heap H locs) (hl : lv_has ls 2 [(0, .ref (ad 369)), (1, .int x1)]) (hf : fX6_save x1 S = some res) : W p l e (headSpec wsX6_save rmX6_save).room s m args below meth c H locs 0 0 (MQ below (va_Qi (fun a (u : teS) => a = res.1 ∧ u = res.2) (fun u t => teR D cy ad ba O u t.heap) (teA ba)) args s 0 0 (teA ba)) (F0 m 0 ls []) := by
  have hx := X.1
  have hb := X.2.1
  have hown := X.2.2.2.2.1
  unfold fX6_save at hf
  refine lv_aload_n hx hb dX6_save_0 rfl (lv_at hl 0 rfl) ?_
  refine lv_iload_n hx hb dX6_save_1 rfl (lv_at hl 1 rfl) ?_
  refine lv_i2l hx hb dX6_save_2 rfl ?_
  refine lv_lconst (v := (0 : Int64)) hx hb dX6_save_3 (by decide) ?_
  refine lv_lconst (v := (1 : Int64)) hx hb dX6_save_4 (by decide) ?_
  obtain ⟨r_1, hq_2, hf⟩ := bd1_some hf
  refine kSi (As := [.long (x1).toInt64, .long (0 : Int64), .long (1 : Int64)]) (rest := [.ref (ad 369)]) X hR hS (zcX6_in l D cy ad ba O S ((x1).toInt64) (0 : Int64) (1 : Int64) _ hq_2) (va_cwS 3 X.2.2.2.2.2.1 gX6_save_X6_in rfl rfl rfl kdX6_in.2 ⟨(Nat.le_of_ble_eq_true rfl), (Nat.le_of_ble_eq_true rfl)⟩)  rfl rfl hl.1 (Nat.le_of_ble_eq_true rfl) ⟨(Nat.le_of_ble_eq_true rfl), (Nat.le_of_ble_eq_true rfl)⟩ dX6_save_5 (fun H locs hR hS => ?_)
  refine lv_if_eq (tgt := 15) hx hb dX6_save_8 (by decide) (fun c_3 => ?_) (fun c_3 => ?_)
  · replace hf := ite_t c_3 hf
    refine lv_iconst (v := (1 : Int32)) hx hb dX6_save_15 (by decide) ?_
    exact bX6_save_16 (S := S) (x1 := x1) X S ((1 : Int32)) _ _ _ hR hS (lv_sub hl [0, 1] rfl) hf
  · replace hf := ite_f c_3 hf
    refine lv_iconst (v := (0 : Int32)) hx hb dX6_save_11 (by decide) ?_
    refine lv_goto (tgt := 16) hx hb dX6_save_12 (by decide) ?_
    exact bX6_save_16 (S := S) (x1 := x1) X S ((0 : Int32)) _ _ _ hR hS (lv_sub hl [0, 1] rfl) hf
theorem zcX6_save (l : Launch) (D : va_G) (cy : Nat → ClassId) (ad : Nat → Nat) (ba : Nat) (O : Int64) (S : teS) (x1 : Int32) (r : Int32) (S1 : teS) (hf : fX6_save x1 S = some (r, S1)) : cI l yX6_save wsX6_save rmX6_save D cy ad ba O S [.ref (ad 369), .int x1] r S1 :=
  te_of (by decide) rfl (Nat.le_of_ble_eq_true rfl) (fun p e s m below meth c ls X hR hS hl => bX6_save_0 (res := (r, S1)) (S := S) (x1 := x1) X _ _ _ hR hS hl hf)
abbrev rmX6_restore : Room := { frames := 1, cells := 0, slots := 0, locals := 25 }
theorem kdX6_restore : yX6_restore.cls = RX6 ∧ yX6_restore.cls ≠ "java/lang/invoke/MethodHandle" ∧ yX6_restore.cls ≠ "java/lang/invoke/VarHandle" ∧ (parseMethodDescriptor yX6_restore.desc).map (fun d => d.parameters.length) = some 1 := by decide +kernel
theorem wX6_restore_28 : Cond.fieldLink RX6 28 "TandemExchangeModel" "isKept" "[Z" ∈ wsX6_restore := by decide +kernel
theorem iX6_restore_6 : ∀ w ∈ wsX60, w ∈ wsX6_restore := fun _ h => List.mem_cons_of_mem _ (List.mem_append_right _ h)
theorem wX6_restore_25 : Cond.fieldLink RX6 25 "TandemExchangeModel" "kept" "[I" ∈ wsX6_restore := by decide +kernel
theorem wX6_restore_16 : Cond.fieldLink RX6 16 "TandemExchangeModel" "now" "[I" ∈ wsX6_restore := by decide +kernel
theorem wX6_restore_135 : Cond.fieldLink RX6 135 "TandemExchangeModel" "acts" "I" ∈ wsX6_restore := by decide +kernel
set_option maxRecDepth 100000 in
set_option maxHeartbeats 4000000 in
theorem bX6_restore_29 {p : Program} {l : Launch} {e : Env} {s : State} {m : MethodId} {args : Array Value} {below : List Frame} {meth : Method} {c : Code} {D : va_G} {cy : Nat → ClassId} {ad : Nat → Nat} {ba : Nat} {O : Int64} {S : teS}  {x1 : Int32} {res : (Int32 × teS)} (X : teC wsX6_restore RX6 cX6_restore 2 (some .int) D cy ba p s m args meth c) : ∀ (S1 : teS) (y0 : Int32) (H : Heap) (locs : List Loc) (ls : Array Slot), teR D cy ad ba O S1 H → va_S (teA ba) s.heap H locs → lv_has ls 2 [(0, .ref (ad 369)), (1, .int x1)] → fX6_restore_29 x1 S1 y0 = some res → W p l e (headSpec wsX6_restore rmX6_restore).room s m args below meth c H locs 0 0 (MQ below (va_Qi (fun a (u : teS) => a = res.1 ∧ u = res.2) (fun u t => teR D cy ad ba O u t.heap) (teA ba)) args s 0 0 (teA ba)) (F0 m 29 ls [.int y0, .ref (ad 369)]) := by
  have hx := X.1
  have hb := X.2.1
  have hown := X.2.2.2.2.1
  intro S1 y0 H locs ls hR hS hl hf
  unfold fX6_restore_29 at hf
  obtain ⟨r_6, S2, hq_7, hf⟩ := bd2_some hf
  refine kVi (id := 369) (As := [.int y0]) (rest := []) X hR hS (zcX6_refused l D cy ad ba O S1 y0 _ _ hq_7) (cwV 1 X.2.2.2.2.2.1 gX6_restore_X6_refused rfl rfl rfl kdX6_refused ⟨(Nat.le_of_ble_eq_true rfl), (Nat.le_of_ble_eq_true rfl)⟩) (by decide) rfl rfl rfl rfl hl.1 (Nat.le_of_ble_eq_true rfl) ⟨(Nat.le_of_ble_eq_true rfl), (Nat.le_of_ble_eq_true rfl)⟩ dX6_restore_29 (fun H locs hR hS => ?_)
  refine lv_if_eq (tgt := 37) hx hb dX6_restore_32 (by decide) (fun c_8 => ?_) (fun c_8 => ?_)
  · replace hf := ite_t c_8 hf
    refine lv_aload_n hx hb dX6_restore_37 rfl (lv_at hl 0 rfl) ?_
    refine rg_6_9 X hR iX6_restore_6 wX6_restore_25 dX6_restore_38 ?_
    refine lv_bipush (v := (92 : Int32)) hx hb dX6_restore_41 (by decide) ?_
    refine lv_iload_n hx hb dX6_restore_43 rfl (lv_at hl 1 rfl) ?_
    refine lv_imul hx hb dX6_restore_44 ?_
    refine lv_aload_n hx hb dX6_restore_45 rfl (lv_at hl 0 rfl) ?_
    refine rg_6_5 X hR iX6_restore_6 wX6_restore_16 dX6_restore_46 ?_
    refine lv_iconst (v := (0 : Int32)) hx hb dX6_restore_49 (by decide) ?_
    obtain ⟨S3, hq_10, hf⟩ := bd1_some hf
    refine kSv (As := [.ref (ad 375), .int ((92 : Int32) * x1), .ref (ad 372), .int (0 : Int32)]) (rest := []) X hR hS (zcX6_copyPage l D cy ad ba O S2 375 ((92 : Int32) * x1) 372 (0 : Int32) rfl rfl _ hq_10) (va_cwS 4 X.2.2.2.2.2.1 gX6_restore_X6_copyPage rfl rfl rfl kdX6_copyPage.2 ⟨(Nat.le_of_ble_eq_true rfl), (Nat.le_of_ble_eq_true rfl)⟩)  rfl rfl hl.1 (Nat.le_of_ble_eq_true rfl) ⟨(Nat.le_of_ble_eq_true rfl), (Nat.le_of_ble_eq_true rfl)⟩ dX6_restore_50 (fun H locs hR hS => ?_)
    refine lv_aload_n hx hb dX6_restore_53 rfl (lv_at hl 0 rfl) ?_
    refine lv_iconst (v := (0 : Int32)) hx hb dX6_restore_54 (by decide) ?_
    refine rp_6_8 X hR hS iX6_restore_6 wX6_restore_135 dX6_restore_55 (fun H locs hR hS => ?_)
    generalize teu S3 369 3 (0 : Int32) = S4 at hf hR
    replace hf := lt1_e hf
    refine lv_aload_n hx hb dX6_restore_58 rfl (lv_at hl 0 rfl) ?_
    refine rg_6_5 X hR iX6_restore_6 wX6_restore_16 dX6_restore_59 ?_
    refine lv_iconst (v := (1 : Int32)) hx hb dX6_restore_62 (by decide) ?_
    obtain ⟨h_11, hf⟩ := chk_some hf
    refine ra_int X hR (r := 372) rfl h_11 dX6_restore_63 ?_
    exact eI X hR hS (congrArg Prod.fst (Option.some.inj hf)) (congrArg Prod.snd (Option.some.inj hf)) dX6_restore_64
  · replace hf := ite_f c_8 hf
    refine lv_iconst (v := (0 : Int32)) hx hb dX6_restore_35 (by decide) ?_
    exact eI X hR hS (congrArg Prod.fst (Option.some.inj hf)) (congrArg Prod.snd (Option.some.inj hf)) dX6_restore_36
set_option maxRecDepth 100000 in
set_option maxHeartbeats 4000000 in
theorem bX6_restore_0 {p : Program} {l : Launch} {e : Env} {s : State} {m : MethodId} {args : Array Value} {below : List Frame} {meth : Method} {c : Code} {D : va_G} {cy : Nat → ClassId} {ad : Nat → Nat} {ba : Nat} {O : Int64} {S : teS}  {x1 : Int32} {res : (Int32 × teS)} (X : teC wsX6_restore RX6 cX6_restore 2 (some .int) D cy ba p s m args meth c) (H : Heap) (locs : List Loc) (ls : Array Slot) (hR : teR D cy ad ba O S H) (hS : va_S (teA ba) s.heap H locs) (hl : lv_has ls 2 [(0, .ref (ad 369)), (1, .int x1)]) (hf : fX6_restore x1 S = some res) : W p l e (headSpec wsX6_restore rmX6_restore).room s m args below meth c H locs 0 0 (MQ below (va_Qi (fun a (u : teS) => a = res.1 ∧ u = res.2) (fun u t => teR D cy ad ba O u t.heap) (teA ba)) args s 0 0 (teA ba)) (F0 m 0 ls []) := by
  have hx := X.1
  have hb := X.2.1
  have hown := X.2.2.2.2.1
  unfold fX6_restore at hf
  refine lv_aload_n hx hb dX6_restore_0 rfl (lv_at hl 0 rfl) ?_
  refine lv_iload_n hx hb dX6_restore_1 rfl (lv_at hl 1 rfl) ?_
  refine lv_i2l hx hb dX6_restore_2 rfl ?_
  refine lv_lconst (v := (0 : Int64)) hx hb dX6_restore_3 (by decide) ?_
  refine lv_lconst (v := (1 : Int64)) hx hb dX6_restore_4 (by decide) ?_
  obtain ⟨r_1, hq_2, hf⟩ := bd1_some hf
  refine kSi (As := [.long (x1).toInt64, .long (0 : Int64), .long (1 : Int64)]) (rest := [.ref (ad 369)]) X hR hS (zcX6_in l D cy ad ba O S ((x1).toInt64) (0 : Int64) (1 : Int64) _ hq_2) (va_cwS 3 X.2.2.2.2.2.1 gX6_restore_X6_in rfl rfl rfl kdX6_in.2 ⟨(Nat.le_of_ble_eq_true rfl), (Nat.le_of_ble_eq_true rfl)⟩)  rfl rfl hl.1 (Nat.le_of_ble_eq_true rfl) ⟨(Nat.le_of_ble_eq_true rfl), (Nat.le_of_ble_eq_true rfl)⟩ dX6_restore_5 (fun H locs hR hS => ?_)
  refine lv_if_ne (tgt := 15) hx hb dX6_restore_8 (by decide) (fun c_3 => ?_) (fun c_3 => ?_)
  · replace hf := ite_f c_3 hf
    refine lv_aload_n hx hb dX6_restore_15 rfl (lv_at hl 0 rfl) ?_
    refine rg_6_10 X hR iX6_restore_6 wX6_restore_28 dX6_restore_16 ?_
    refine lv_iload_n hx hb dX6_restore_19 rfl (lv_at hl 1 rfl) ?_
    obtain ⟨h_4, hf⟩ := chk_some hf
    refine ra_z376 X hR h_4 dX6_restore_20 ?_
    refine lv_if_ne (tgt := 28) hx hb dX6_restore_21 (by decide) (fun c_5 => ?_) (fun c_5 => ?_)
    · replace hf := ite_f c_5 hf
      refine lv_iconst (v := (0 : Int32)) hx hb dX6_restore_28 (by decide) ?_
      exact bX6_restore_29 (S := S) (x1 := x1) X S ((0 : Int32)) _ _ _ hR hS (lv_sub hl [0, 1] rfl) hf
    · replace hf := ite_t c_5 hf
      refine lv_iconst (v := (2 : Int32)) hx hb dX6_restore_24 (by decide) ?_
      refine lv_goto (tgt := 29) hx hb dX6_restore_25 (by decide) ?_
      exact bX6_restore_29 (S := S) (x1 := x1) X S ((2 : Int32)) _ _ _ hR hS (lv_sub hl [0, 1] rfl) hf
  · replace hf := ite_t c_3 hf
    refine lv_iconst (v := (1 : Int32)) hx hb dX6_restore_11 (by decide) ?_
    refine lv_goto (tgt := 29) hx hb dX6_restore_12 (by decide) ?_
    exact bX6_restore_29 (S := S) (x1 := x1) X S ((1 : Int32)) _ _ _ hR hS (lv_sub hl [0, 1] rfl) hf
theorem zcX6_restore (l : Launch) (D : va_G) (cy : Nat → ClassId) (ad : Nat → Nat) (ba : Nat) (O : Int64) (S : teS) (x1 : Int32) (r : Int32) (S1 : teS) (hf : fX6_restore x1 S = some (r, S1)) : cI l yX6_restore wsX6_restore rmX6_restore D cy ad ba O S [.ref (ad 369), .int x1] r S1 :=
  te_of (by decide) rfl (Nat.le_of_ble_eq_true rfl) (fun p e s m below meth c ls X hR hS hl => bX6_restore_0 (res := (r, S1)) (S := S) (x1 := x1) X _ _ _ hR hS hl hf)
