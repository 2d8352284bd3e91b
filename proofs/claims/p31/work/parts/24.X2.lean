abbrev rmX2_remember : Room := { frames := 3, cells := 0, slots := 0, locals := 103 }
theorem kdX2_remember : yX2_remember.cls = RX2 ∧ yX2_remember.cls ≠ "java/lang/invoke/MethodHandle" ∧ yX2_remember.cls ≠ "java/lang/invoke/VarHandle" ∧ (parseMethodDescriptor yX2_remember.desc).map (fun d => d.parameters.length) = some 1 := by decide +kernel
theorem wX2_remember_18 : Cond.fieldLink RX2 18 "TandemExchange$History" "count" "I" ∈ wsX2_remember := by decide +kernel
theorem iX2_remember_2 : ∀ w ∈ wsX20, w ∈ wsX2_remember := by decide +kernel
theorem wX2_remember_22 : Cond.fieldLink RX2 22 "TandemExchange$History" "oldest" "I" ∈ wsX2_remember := by decide +kernel
theorem wX2_remember_11 : Cond.fieldLink RX2 11 "TandemExchange$History" "states" "[LTandemExchange$Circle;" ∈ wsX2_remember := by decide +kernel
set_option maxRecDepth 100000 in
set_option maxHeartbeats 4000000 in
theorem bX2_remember_32 {p : Program} {l : Launch} {e : Env} {s : State} {m : MethodId} {args : Array Value} {below : List Frame} {meth : Method} {c : Code} {D : va_G} {cy : Nat → ClassId} {ad : Nat → Nat} {ba : Nat → Prop} {O : Int64} {S : teS}  {k1 : Nat} {res : teS} (hk1 : k1 < 18) (X : teC wsX2_remember RX2 cX2_remember 2 none D cy ba p s m args meth c) : ∀ (S1 : teS) (H : Heap) (locs : List Loc) (ls : Array Slot), teR D cy ad ba O S1 H → va_S (teA ba) s.heap H locs → lv_has ls 2 [(0, .ref (ad 363)), (1, .ref (ad (20 * k1)))] → fX2_remember_32 k1 S1 = some res → W p l e (headSpec wsX2_remember rmX2_remember).room s m args below meth c H locs 0 0 (MQ below (va_Qv (fun (u : teS) => u = res) (fun u t => teR D cy ad ba O u t.heap) (teA ba)) args s 0 0 (teA ba)) (F0 m 32 ls []) := by
  have hx := X.1
  have hb := X.2.1
  have hown := X.2.2.2.2.1
  intro S1 H locs ls hR hS hl hf
  unfold fX2_remember_32 at hf
  refine lv_aload_n hx hb dX2_remember_32 rfl (lv_at hl 0 rfl) ?_
  refine rg_2_0 X hR iX2_remember_2 wX2_remember_11 dX2_remember_33 ?_
  refine lv_aload_n hx hb dX2_remember_36 rfl (lv_at hl 0 rfl) ?_
  refine rg_2_1 X hR iX2_remember_2 wX2_remember_22 dX2_remember_37 ?_
  refine lv_aload_n hx hb dX2_remember_40 rfl (lv_at hl 0 rfl) ?_
  refine rg_2_2 X hR iX2_remember_2 wX2_remember_18 dX2_remember_41 ?_
  refine lv_iadd hx hb dX2_remember_44 ?_
  refine lv_bipush (v := (14 : Int32)) hx hb dX2_remember_45 (by decide) ?_
  refine lv_irem hx hb dX2_remember_47 (by decide) ?_
  obtain ⟨h_2, hf⟩ := chk_some hf
  refine ra_his X hR h_2 dX2_remember_48 ?_
  refine lv_aload_n hx hb dX2_remember_49 rfl (lv_at hl 1 rfl) ?_
  obtain ⟨S2, hq_4, hf⟩ := bd1_some hf
  refine kVv (id := (20 * (2 + (((S1 363 0) + (S1 363 1)) - ((S1 363 0) + (S1 363 1)) / (14 : Int32) * (14 : Int32)).toNatClampNeg))) (As := [.ref (ad (20 * k1))]) (rest := []) X hR hS (zcX1_copyFrom l D cy ad ba O S1 (2 + (((S1 363 0) + (S1 363 1)) - ((S1 363 0) + (S1 363 1)) / (14 : Int32) * (14 : Int32)).toNatClampNeg) k1 (by have := tein_lt h_2; omega) hk1 _ hq_4) (cwV 1 X.2.2.2.2.2.1 gX2_remember_X1_copyFrom rfl rfl rfl kdX1_copyFrom ⟨(Nat.le_of_ble_eq_true rfl), (Nat.le_of_ble_eq_true rfl)⟩) (te_idc (by have := tein_lt h_2; omega)) (teE_circ cy ad O S1 (by have := tein_lt h_2; omega)) rfl rfl rfl hl.1 (Nat.le_of_ble_eq_true rfl) ⟨(Nat.le_of_ble_eq_true rfl), (Nat.le_of_ble_eq_true rfl)⟩ dX2_remember_50 (fun H locs hR hS => ?_)
  refine lv_aload_n hx hb dX2_remember_53 rfl (lv_at hl 0 rfl) ?_
  refine lv_dup hx hb dX2_remember_54 rfl ?_
  refine rg_2_2 X hR iX2_remember_2 wX2_remember_18 dX2_remember_55 ?_
  refine lv_iconst (v := (1 : Int32)) hx hb dX2_remember_58 (by decide) ?_
  refine lv_iadd hx hb dX2_remember_59 ?_
  refine rp_2_2 X hR hS iX2_remember_2 wX2_remember_18 dX2_remember_60 (fun H locs hR hS => ?_)
  generalize teu S2 363 1 ((S2 363 1) + (1 : Int32)) = S3 at hf hR
  replace hf := lt1_e hf
  exact eV X hR hS (Option.some.inj hf) dX2_remember_63
set_option maxRecDepth 100000 in
set_option maxHeartbeats 4000000 in
theorem bX2_remember_0 {p : Program} {l : Launch} {e : Env} {s : State} {m : MethodId} {args : Array Value} {below : List Frame} {meth : Method} {c : Code} {D : va_G} {cy : Nat → ClassId} {ad : Nat → Nat} {ba : Nat → Prop} {O : Int64} {S : teS}  {k1 : Nat} {res : teS} (hk1 : k1 < 18) (X : teC wsX2_remember RX2 cX2_remember 2 none D cy ba p s m args meth c) (H : Heap) (locs : List Loc) (ls : Array Slot) (hR : teR D cy ad ba O S H) (hS : va_S (teA ba) s.heap H locs) (hl : lv_has ls 2 [(0, .ref (ad 363)), (1, .ref (ad (20 * k1)))]) (hf : fX2_remember k1 S = some res) : W p l e (headSpec wsX2_remember rmX2_remember).room s m args below meth c H locs 0 0 (MQ below (va_Qv (fun (u : teS) => u = res) (fun u t => teR D cy ad ba O u t.heap) (teA ba)) args s 0 0 (teA ba)) (F0 m 0 ls []) := by
  have hx := X.1
  have hb := X.2.1
  have hown := X.2.2.2.2.1
  unfold fX2_remember at hf
  refine lv_aload_n hx hb dX2_remember_0 rfl (lv_at hl 0 rfl) ?_
  refine rg_2_2 X hR iX2_remember_2 wX2_remember_18 dX2_remember_1 ?_
  refine lv_bipush (v := (14 : Int32)) hx hb dX2_remember_4 (by decide) ?_
  refine lv_icmp_lt (tgt := 32) hx hb dX2_remember_6 (by decide) (fun c_1 => ?_) (fun c_1 => ?_)
  · replace hf := ite_t c_1 hf
    exact bX2_remember_32 (S := S) (k1 := k1) hk1 X S _ _ _ hR hS (lv_sub hl [0, 1] rfl) hf
  · replace hf := ite_f c_1 hf
    refine lv_aload_n hx hb dX2_remember_9 rfl (lv_at hl 0 rfl) ?_
    refine lv_aload_n hx hb dX2_remember_10 rfl (lv_at hl 0 rfl) ?_
    refine rg_2_1 X hR iX2_remember_2 wX2_remember_22 dX2_remember_11 ?_
    refine lv_iconst (v := (1 : Int32)) hx hb dX2_remember_14 (by decide) ?_
    refine lv_iadd hx hb dX2_remember_15 ?_
    refine lv_bipush (v := (14 : Int32)) hx hb dX2_remember_16 (by decide) ?_
    refine lv_irem hx hb dX2_remember_18 (by decide) ?_
    refine rp_2_1 X hR hS iX2_remember_2 wX2_remember_22 dX2_remember_19 (fun H locs hR hS => ?_)
    generalize teu S 363 0 (((S 363 0) + (1 : Int32)) - ((S 363 0) + (1 : Int32)) / (14 : Int32) * (14 : Int32)) = S1 at hf hR
    replace hf := lt1_e hf
    refine lv_aload_n hx hb dX2_remember_22 rfl (lv_at hl 0 rfl) ?_
    refine lv_dup hx hb dX2_remember_23 rfl ?_
    refine rg_2_2 X hR iX2_remember_2 wX2_remember_18 dX2_remember_24 ?_
    refine lv_iconst (v := (1 : Int32)) hx hb dX2_remember_27 (by decide) ?_
    refine lv_isub hx hb dX2_remember_28 ?_
    refine rp_2_2 X hR hS iX2_remember_2 wX2_remember_18 dX2_remember_29 (fun H locs hR hS => ?_)
    generalize teu S1 363 1 ((S1 363 1) - (1 : Int32)) = S2 at hf hR
    replace hf := lt1_e hf
    exact bX2_remember_32 (S := S) (k1 := k1) hk1 X S2 _ _ _ hR hS (lv_sub hl [0, 1] rfl) hf
theorem zcX2_remember (l : Launch) (D : va_G) (cy : Nat → ClassId) (ad : Nat → Nat) (ba : Nat → Prop) (O : Int64) (S : teS) (k1 : Nat) (hk1 : k1 < 18) (res : teS) (hf : fX2_remember k1 S = some res) : cV l yX2_remember wsX2_remember rmX2_remember D cy ad ba O S [.ref (ad 363), .ref (ad (20 * k1))] res :=
  te_of (by decide +kernel) rfl (Nat.le_of_ble_eq_true rfl) (fun p e s m below meth c ls X hR hS hl => bX2_remember_0 (S := S) (k1 := k1) hk1 X _ _ _ hR hS hl hf)
abbrev rmX2_takeBack : Room := { frames := 3, cells := 0, slots := 0, locals := 103 }
theorem kdX2_takeBack : yX2_takeBack.cls = RX2 ∧ yX2_takeBack.cls ≠ "java/lang/invoke/MethodHandle" ∧ yX2_takeBack.cls ≠ "java/lang/invoke/VarHandle" ∧ (parseMethodDescriptor yX2_takeBack.desc).map (fun d => d.parameters.length) = some 1 := by decide +kernel
theorem wX2_takeBack_18 : Cond.fieldLink RX2 18 "TandemExchange$History" "count" "I" ∈ wsX2_takeBack := by decide +kernel
theorem iX2_takeBack_2 : ∀ w ∈ wsX20, w ∈ wsX2_takeBack := by decide +kernel
theorem wX2_takeBack_11 : Cond.fieldLink RX2 11 "TandemExchange$History" "states" "[LTandemExchange$Circle;" ∈ wsX2_takeBack := by decide +kernel
theorem wX2_takeBack_22 : Cond.fieldLink RX2 22 "TandemExchange$History" "oldest" "I" ∈ wsX2_takeBack := by decide +kernel
set_option maxRecDepth 100000 in
set_option maxHeartbeats 4000000 in
theorem bX2_takeBack_0 {p : Program} {l : Launch} {e : Env} {s : State} {m : MethodId} {args : Array Value} {below : List Frame} {meth : Method} {c : Code} {D : va_G} {cy : Nat → ClassId} {ad : Nat → Nat} {ba : Nat → Prop} {O : Int64} {S : teS}  {k1 : Nat} {res : teS} (hk1 : k1 < 18) (X : teC wsX2_takeBack RX2 cX2_takeBack 2 none D cy ba p s m args meth c) (H : Heap) (locs : List Loc) (ls : Array Slot) (hR : teR D cy ad ba O S H) (hS : va_S (teA ba) s.heap H locs) (hl : lv_has ls 2 [(0, .ref (ad 363)), (1, .ref (ad (20 * k1)))]) (hf : fX2_takeBack k1 S = some res) : W p l e (headSpec wsX2_takeBack rmX2_takeBack).room s m args below meth c H locs 0 0 (MQ below (va_Qv (fun (u : teS) => u = res) (fun u t => teR D cy ad ba O u t.heap) (teA ba)) args s 0 0 (teA ba)) (F0 m 0 ls []) := by
  have hx := X.1
  have hb := X.2.1
  have hown := X.2.2.2.2.1
  unfold fX2_takeBack at hf
  refine lv_aload_n hx hb dX2_takeBack_0 rfl (lv_at hl 0 rfl) ?_
  refine rg_2_2 X hR iX2_takeBack_2 wX2_takeBack_18 dX2_takeBack_1 ?_
  refine lv_if_le (tgt := 38) hx hb dX2_takeBack_4 (by decide) (fun c_1 => ?_) (fun c_1 => ?_)
  · replace hf := ite_t c_1 hf
    exact eV X hR hS (Option.some.inj hf) dX2_takeBack_38
  · replace hf := ite_f c_1 hf
    refine lv_aload_n hx hb dX2_takeBack_7 rfl (lv_at hl 0 rfl) ?_
    refine lv_dup hx hb dX2_takeBack_8 rfl ?_
    refine rg_2_2 X hR iX2_takeBack_2 wX2_takeBack_18 dX2_takeBack_9 ?_
    refine lv_iconst (v := (1 : Int32)) hx hb dX2_takeBack_12 (by decide) ?_
    refine lv_isub hx hb dX2_takeBack_13 ?_
    refine rp_2_2 X hR hS iX2_takeBack_2 wX2_takeBack_18 dX2_takeBack_14 (fun H locs hR hS => ?_)
    generalize teu S 363 1 ((S 363 1) - (1 : Int32)) = S1 at hf hR
    replace hf := lt1_e hf
    refine lv_aload_n hx hb dX2_takeBack_17 rfl (lv_at hl 1 rfl) ?_
    refine lv_aload_n hx hb dX2_takeBack_18 rfl (lv_at hl 0 rfl) ?_
    refine rg_2_0 X hR iX2_takeBack_2 wX2_takeBack_11 dX2_takeBack_19 ?_
    refine lv_aload_n hx hb dX2_takeBack_22 rfl (lv_at hl 0 rfl) ?_
    refine rg_2_1 X hR iX2_takeBack_2 wX2_takeBack_22 dX2_takeBack_23 ?_
    refine lv_aload_n hx hb dX2_takeBack_26 rfl (lv_at hl 0 rfl) ?_
    refine rg_2_2 X hR iX2_takeBack_2 wX2_takeBack_18 dX2_takeBack_27 ?_
    refine lv_iadd hx hb dX2_takeBack_30 ?_
    refine lv_bipush (v := (14 : Int32)) hx hb dX2_takeBack_31 (by decide) ?_
    refine lv_irem hx hb dX2_takeBack_33 (by decide) ?_
    obtain ⟨h_2, hf⟩ := chk_some hf
    refine ra_his X hR h_2 dX2_takeBack_34 ?_
    obtain ⟨S2, hq_4, hf⟩ := bd1_some hf
    refine kVv (id := (20 * k1)) (As := [.ref (ad (20 * (2 + (((S1 363 0) + (S1 363 1)) - ((S1 363 0) + (S1 363 1)) / (14 : Int32) * (14 : Int32)).toNatClampNeg)))]) (rest := []) X hR hS (zcX1_copyFrom l D cy ad ba O S1 k1 (2 + (((S1 363 0) + (S1 363 1)) - ((S1 363 0) + (S1 363 1)) / (14 : Int32) * (14 : Int32)).toNatClampNeg) hk1 (by have := tein_lt h_2; omega) _ hq_4) (cwV 1 X.2.2.2.2.2.1 gX2_takeBack_X1_copyFrom rfl rfl rfl kdX1_copyFrom ⟨(Nat.le_of_ble_eq_true rfl), (Nat.le_of_ble_eq_true rfl)⟩) (te_idc hk1) (teE_circ cy ad O S1 hk1) rfl rfl rfl hl.1 (Nat.le_of_ble_eq_true rfl) ⟨(Nat.le_of_ble_eq_true rfl), (Nat.le_of_ble_eq_true rfl)⟩ dX2_takeBack_35 (fun H locs hR hS => ?_)
    exact eV X hR hS (Option.some.inj hf) dX2_takeBack_38
theorem zcX2_takeBack (l : Launch) (D : va_G) (cy : Nat → ClassId) (ad : Nat → Nat) (ba : Nat → Prop) (O : Int64) (S : teS) (k1 : Nat) (hk1 : k1 < 18) (res : teS) (hf : fX2_takeBack k1 S = some res) : cV l yX2_takeBack wsX2_takeBack rmX2_takeBack D cy ad ba O S [.ref (ad 363), .ref (ad (20 * k1))] res :=
  te_of (by decide +kernel) rfl (Nat.le_of_ble_eq_true rfl) (fun p e s m below meth c ls X hR hS hl => bX2_takeBack_0 (S := S) (k1 := k1) hk1 X _ _ _ hR hS hl hf)
abbrev rmX2_forget : Room := { frames := 0, cells := 0, slots := 0, locals := 0 }
theorem kdX2_forget : yX2_forget.cls = RX2 ∧ yX2_forget.cls ≠ "java/lang/invoke/MethodHandle" ∧ yX2_forget.cls ≠ "java/lang/invoke/VarHandle" ∧ (parseMethodDescriptor yX2_forget.desc).map (fun d => d.parameters.length) = some 0 := by decide +kernel
theorem wX2_forget_18 : Cond.fieldLink RX2 18 "TandemExchange$History" "count" "I" ∈ wsX2_forget := by decide +kernel
theorem iX2_forget_2 : ∀ w ∈ wsX20, w ∈ wsX2_forget := fun _ h => List.mem_cons_of_mem _ (List.mem_append_right _ h)
set_option maxRecDepth 100000 in
set_option maxHeartbeats 4000000 in
theorem bX2_forget_0 {p : Program} {l : Launch} {e : Env} {s : State} {m : MethodId} {args : Array Value} {below : List Frame} {meth : Method} {c : Code} {D : va_G} {cy : Nat → ClassId} {ad : Nat → Nat} {ba : Nat → Prop} {O : Int64} {S : teS}  {res : teS} (X : teC wsX2_forget RX2 cX2_forget 1 none D cy ba p s m args meth c) (H : Heap) (locs : List Loc) (ls : Array Slot) (hR : teR D cy ad ba O S H) (hS : va_S (teA ba) s.heap H locs) (hl : lv_has ls 1 [(0, .ref (ad 363))]) (hf : fX2_forget S = some res) : W p l e (headSpec wsX2_forget rmX2_forget).room s m args below meth c H locs 0 0 (MQ below (va_Qv (fun (u : teS) => u = res) (fun u t => teR D cy ad ba O u t.heap) (teA ba)) args s 0 0 (teA ba)) (F0 m 0 ls []) := by
  have hx := X.1
  have hb := X.2.1
  have hown := X.2.2.2.2.1
  unfold fX2_forget at hf
  refine lv_aload_n hx hb dX2_forget_0 rfl (lv_at hl 0 rfl) ?_
  refine lv_iconst (v := (0 : Int32)) hx hb dX2_forget_1 (by decide) ?_
  refine rp_2_2 X hR hS iX2_forget_2 wX2_forget_18 dX2_forget_2 (fun H locs hR hS => ?_)
  generalize teu S 363 1 (0 : Int32) = S1 at hf hR
  replace hf := lt1_e hf
  exact eV X hR hS (Option.some.inj hf) dX2_forget_5
theorem zcX2_forget (l : Launch) (D : va_G) (cy : Nat → ClassId) (ad : Nat → Nat) (ba : Nat → Prop) (O : Int64) (S : teS) (res : teS) (hf : fX2_forget S = some res) : cV l yX2_forget wsX2_forget rmX2_forget D cy ad ba O S [.ref (ad 363)] res :=
  te_of (by decide +kernel) rfl (Nat.le_of_ble_eq_true rfl) (fun p e s m below meth c ls X hR hS hl => bX2_forget_0 (S := S)  X _ _ _ hR hS hl hf)
