abbrev rmX3_copyFrom : Room := { frames := 1, cells := 0, slots := 0, locals := 60 }
theorem kdX3_copyFrom : yX3_copyFrom.cls = RX3 ∧ yX3_copyFrom.cls ≠ "java/lang/invoke/MethodHandle" ∧ yX3_copyFrom.cls ≠ "java/lang/invoke/VarHandle" ∧ (parseMethodDescriptor yX3_copyFrom.desc).map (fun d => d.parameters.length) = some 1 := by decide +kernel
theorem wX3_copyFrom_9 : Cond.fieldLink RX3 9 "TandemExchange$Member" "levels" "[I" ∈ wsX3_copyFrom := by decide +kernel
theorem iX3_copyFrom_3 : ∀ w ∈ wsX30, w ∈ wsX3_copyFrom := fun _ h => List.mem_cons_of_mem _ (List.mem_append_right _ h)
theorem wX3_copyFrom_15 : Cond.methodLink RX3 15 arraycopyName ∈ wsX3_copyFrom := by decide +kernel
theorem wX3_copyFrom_acn : Cond.native arraycopyName ∈ wsX3_copyFrom := by decide +kernel
theorem wX3_copyFrom_acs : Cond.static arraycopyName ∈ wsX3_copyFrom := by decide +kernel
theorem wX3_copyFrom_aci : Cond.initialized "java/lang/System" ∈ wsX3_copyFrom := by decide +kernel
theorem wX3_copyFrom_21 : Cond.fieldLink RX3 21 "TandemExchange$Member" "wants" "I" ∈ wsX3_copyFrom := by decide +kernel
theorem wX3_copyFrom_25 : Cond.fieldLink RX3 25 "TandemExchange$Member" "progress" "I" ∈ wsX3_copyFrom := by decide +kernel
theorem wX3_copyFrom_28 : Cond.fieldLink RX3 28 "TandemExchange$Member" "credits" "I" ∈ wsX3_copyFrom := by decide +kernel
theorem wX3_copyFrom_31 : Cond.fieldLink RX3 31 "TandemExchange$Member" "missed" "I" ∈ wsX3_copyFrom := by decide +kernel
theorem wX3_copyFrom_34 : Cond.fieldLink RX3 34 "TandemExchange$Member" "partner" "I" ∈ wsX3_copyFrom := by decide +kernel
theorem wX3_copyFrom_37 : Cond.fieldLink RX3 37 "TandemExchange$Member" "missedInRow" "I" ∈ wsX3_copyFrom := by decide +kernel
set_option maxRecDepth 100000 in
set_option maxHeartbeats 4000000 in
theorem bX3_copyFrom_0 {p : Program} {l : Launch} {e : Env} {s : State} {m : MethodId} {args : Array Value} {below : List Frame} {meth : Method} {c : Code} {D : va_G} {cy : Nat → ClassId} {ad : Nat → Nat} {ba : Nat → Prop} {O : Int64} {S : teS}  {k0 : Nat} {m0 : Nat} {k1 : Nat} {m1 : Nat} {res : teS} (hk0 : k0 < 18) (hm0 : m0 < 9) (hk1 : k1 < 18) (hm1 : m1 < 9) (X : teC wsX3_copyFrom RX3 cX3_copyFrom 2 none D cy ba p s m args meth c) (H : Heap) (locs : List Loc) (ls : Array Slot) (hR : teR D cy ad ba O S H) (hS : va_S (teA ba) s.heap H locs) (hl : lv_has ls 2 [(0, .ref (ad (20 * k0 + 2 + m0))), (1, .ref (ad (20 * k1 + 2 + m1)))]) (hf : fX3_copyFrom k0 m0 k1 m1 S = some res) : W p l e (headSpec wsX3_copyFrom rmX3_copyFrom).room s m args below meth c H locs 0 0 (MQ below (va_Qv (fun (u : teS) => u = res) (fun u t => teR D cy ad ba O u t.heap) (teA ba)) args s 0 0 (teA ba)) (F0 m 0 ls []) := by
  have hx := X.1
  have hb := X.2.1
  have hown := X.2.2.2.2.1
  unfold fX3_copyFrom at hf
  refine lv_aload_n hx hb dX3_copyFrom_0 rfl (lv_at hl 1 rfl) ?_
  refine rg_3_0 X hR hk1 hm1 iX3_copyFrom_3 wX3_copyFrom_9 dX3_copyFrom_1 ?_
  refine lv_iconst (v := (0 : Int32)) hx hb dX3_copyFrom_4 (by decide) ?_
  refine lv_aload_n hx hb dX3_copyFrom_5 rfl (lv_at hl 0 rfl) ?_
  refine rg_3_0 X hR hk0 hm0 iX3_copyFrom_3 wX3_copyFrom_9 dX3_copyFrom_6 ?_
  refine lv_iconst (v := (0 : Int32)) hx hb dX3_copyFrom_9 (by decide) ?_
  refine lv_iconst (v := (4 : Int32)) hx hb dX3_copyFrom_10 (by decide) ?_
  refine rc_lev X hR hS hk0 hm0 hk1 hm1 wX3_copyFrom_15 wX3_copyFrom_acn wX3_copyFrom_acs wX3_copyFrom_aci hl.1 (Nat.le_of_ble_eq_true rfl) (Nat.le_of_ble_eq_true rfl) dX3_copyFrom_11 (fun H locs hR hS => ?_)
  generalize tecp S k0 m0 k1 m1 = S1 at hf hR
  replace hf := lt1_e hf
  refine lv_aload_n hx hb dX3_copyFrom_14 rfl (lv_at hl 0 rfl) ?_
  refine lv_aload_n hx hb dX3_copyFrom_15 rfl (lv_at hl 1 rfl) ?_
  refine rg_3_1 X hR hk1 hm1 iX3_copyFrom_3 wX3_copyFrom_21 dX3_copyFrom_16 ?_
  refine rp_3_1 X hR hS hk0 hm0 iX3_copyFrom_3 wX3_copyFrom_21 dX3_copyFrom_19 (fun H locs hR hS => ?_)
  generalize teu S1 k0 (2 + 10 * m0 + 4) (S1 k1 (2 + 10 * m1 + 4)) = S2 at hf hR
  replace hf := lt1_e hf
  refine lv_aload_n hx hb dX3_copyFrom_22 rfl (lv_at hl 0 rfl) ?_
  refine lv_aload_n hx hb dX3_copyFrom_23 rfl (lv_at hl 1 rfl) ?_
  refine rg_3_2 X hR hk1 hm1 iX3_copyFrom_3 wX3_copyFrom_25 dX3_copyFrom_24 ?_
  refine rp_3_2 X hR hS hk0 hm0 iX3_copyFrom_3 wX3_copyFrom_25 dX3_copyFrom_27 (fun H locs hR hS => ?_)
  generalize teu S2 k0 (2 + 10 * m0 + 5) (S2 k1 (2 + 10 * m1 + 5)) = S3 at hf hR
  replace hf := lt1_e hf
  refine lv_aload_n hx hb dX3_copyFrom_30 rfl (lv_at hl 0 rfl) ?_
  refine lv_aload_n hx hb dX3_copyFrom_31 rfl (lv_at hl 1 rfl) ?_
  refine rg_3_3 X hR hk1 hm1 iX3_copyFrom_3 wX3_copyFrom_28 dX3_copyFrom_32 ?_
  refine rp_3_3 X hR hS hk0 hm0 iX3_copyFrom_3 wX3_copyFrom_28 dX3_copyFrom_35 (fun H locs hR hS => ?_)
  generalize teu S3 k0 (2 + 10 * m0 + 6) (S3 k1 (2 + 10 * m1 + 6)) = S4 at hf hR
  replace hf := lt1_e hf
  refine lv_aload_n hx hb dX3_copyFrom_38 rfl (lv_at hl 0 rfl) ?_
  refine lv_aload_n hx hb dX3_copyFrom_39 rfl (lv_at hl 1 rfl) ?_
  refine rg_3_4 X hR hk1 hm1 iX3_copyFrom_3 wX3_copyFrom_31 dX3_copyFrom_40 ?_
  refine rp_3_4 X hR hS hk0 hm0 iX3_copyFrom_3 wX3_copyFrom_31 dX3_copyFrom_43 (fun H locs hR hS => ?_)
  generalize teu S4 k0 (2 + 10 * m0 + 7) (S4 k1 (2 + 10 * m1 + 7)) = S5 at hf hR
  replace hf := lt1_e hf
  refine lv_aload_n hx hb dX3_copyFrom_46 rfl (lv_at hl 0 rfl) ?_
  refine lv_aload_n hx hb dX3_copyFrom_47 rfl (lv_at hl 1 rfl) ?_
  refine rg_3_5 X hR hk1 hm1 iX3_copyFrom_3 wX3_copyFrom_34 dX3_copyFrom_48 ?_
  refine rp_3_5 X hR hS hk0 hm0 iX3_copyFrom_3 wX3_copyFrom_34 dX3_copyFrom_51 (fun H locs hR hS => ?_)
  generalize teu S5 k0 (2 + 10 * m0 + 8) (S5 k1 (2 + 10 * m1 + 8)) = S6 at hf hR
  replace hf := lt1_e hf
  refine lv_aload_n hx hb dX3_copyFrom_54 rfl (lv_at hl 0 rfl) ?_
  refine lv_aload_n hx hb dX3_copyFrom_55 rfl (lv_at hl 1 rfl) ?_
  refine rg_3_6 X hR hk1 hm1 iX3_copyFrom_3 wX3_copyFrom_37 dX3_copyFrom_56 ?_
  refine rp_3_6 X hR hS hk0 hm0 iX3_copyFrom_3 wX3_copyFrom_37 dX3_copyFrom_59 (fun H locs hR hS => ?_)
  generalize teu S6 k0 (2 + 10 * m0 + 9) (S6 k1 (2 + 10 * m1 + 9)) = S7 at hf hR
  replace hf := lt1_e hf
  exact eV X hR hS (Option.some.inj hf) dX3_copyFrom_62
theorem zcX3_copyFrom (l : Launch) (D : va_G) (cy : Nat → ClassId) (ad : Nat → Nat) (ba : Nat → Prop) (O : Int64) (S : teS) (k0 : Nat) (m0 : Nat) (k1 : Nat) (m1 : Nat) (hk0 : k0 < 18) (hm0 : m0 < 9) (hk1 : k1 < 18) (hm1 : m1 < 9) (res : teS) (hf : fX3_copyFrom k0 m0 k1 m1 S = some res) : cV l yX3_copyFrom wsX3_copyFrom rmX3_copyFrom D cy ad ba O S [.ref (ad (20 * k0 + 2 + m0)), .ref (ad (20 * k1 + 2 + m1))] res :=
  te_of (by decide +kernel) rfl (Nat.le_of_ble_eq_true rfl) (fun p e s m below meth c ls X hR hS hl => bX3_copyFrom_0 (S := S) (k0 := k0) (m0 := m0) (k1 := k1) (m1 := m1) hk0 hm0 hk1 hm1 X _ _ _ hR hS hl hf)
abbrev rmX3_start : Room := { frames := 0, cells := 0, slots := 0, locals := 0 }
theorem kdX3_start : yX3_start.cls = RX3 ∧ yX3_start.cls ≠ "java/lang/invoke/MethodHandle" ∧ yX3_start.cls ≠ "java/lang/invoke/VarHandle" ∧ (parseMethodDescriptor yX3_start.desc).map (fun d => d.parameters.length) = some 3 := by decide +kernel
theorem wX3_start_21 : Cond.fieldLink RX3 21 "TandemExchange$Member" "wants" "I" ∈ wsX3_start := by decide +kernel
theorem iX3_start_3 : ∀ w ∈ wsX30, w ∈ wsX3_start := fun _ h => List.mem_cons_of_mem _ (List.mem_append_right _ h)
theorem wX3_start_25 : Cond.fieldLink RX3 25 "TandemExchange$Member" "progress" "I" ∈ wsX3_start := by decide +kernel
theorem wX3_start_28 : Cond.fieldLink RX3 28 "TandemExchange$Member" "credits" "I" ∈ wsX3_start := by decide +kernel
theorem wX3_start_31 : Cond.fieldLink RX3 31 "TandemExchange$Member" "missed" "I" ∈ wsX3_start := by decide +kernel
theorem wX3_start_34 : Cond.fieldLink RX3 34 "TandemExchange$Member" "partner" "I" ∈ wsX3_start := by decide +kernel
theorem wX3_start_37 : Cond.fieldLink RX3 37 "TandemExchange$Member" "missedInRow" "I" ∈ wsX3_start := by decide +kernel
theorem wX3_start_9 : Cond.fieldLink RX3 9 "TandemExchange$Member" "levels" "[I" ∈ wsX3_start := by decide +kernel
set_option maxRecDepth 100000 in
set_option maxHeartbeats 4000000 in
theorem bX3_start_6 {p : Program} {l : Launch} {e : Env} {s : State} {m : MethodId} {args : Array Value} {below : List Frame} {meth : Method} {c : Code} {D : va_G} {cy : Nat → ClassId} {ad : Nat → Nat} {ba : Nat → Prop} {O : Int64} {S : teS}  {k0 : Nat} {m0 : Nat} {x1 : Int32} {x2 : Int32} {x3 : Int32} {res : teS} (hk0 : k0 < 18) (hm0 : m0 < 9) (X : teC wsX3_start RX3 cX3_start 6 none D cy ba p s m args meth c) : ∀ (n : Nat), ∀ (S1 : teS) (v4 : Int32) (v5 : Int32) (H : Heap) (locs : List Loc) (ls : Array Slot), teR D cy ad ba O S1 H → va_S (teA ba) s.heap H locs → lv_has ls 6 [(0, .ref (ad (20 * k0 + 2 + m0))), (1, .int x1), (3, .int x3), (4, .int v4), (5, .int v5)] → fX3_start_6 k0 m0 x1 x2 x3 n S1 v4 v5 = some res → W p l e (headSpec wsX3_start rmX3_start).room s m args below meth c H locs 0 0 (MQ below (va_Qv (fun (u : teS) => u = res) (fun u t => teR D cy ad ba O u t.heap) (teA ba)) args s 0 0 (teA ba)) (F0 m 6 ls []) := by
  have hx := X.1
  have hb := X.2.1
  have hown := X.2.2.2.2.1
  intro n
  induction n with
  | zero =>
    intro S1 v4 v5 H locs ls hR hS hl hf
    exact nomatch hf
  | succ n ih =>
    intro S1 v4 v5 H locs ls hR hS hl hf
    unfold fX3_start_6 at hf
    refine lv_iload hx hb dX3_start_6 (lv_at hl 4 rfl) ?_
    refine lv_if_lt (tgt := 36) hx hb dX3_start_8 (by decide) (fun c_1 => ?_) (fun c_1 => ?_)
    · replace hf := ite_t c_1 hf
      refine lv_aload_n hx hb dX3_start_36 rfl (lv_at hl 0 rfl) ?_
      refine lv_iload_n hx hb dX3_start_37 rfl (lv_at hl 1 rfl) ?_
      refine rp_3_1 X hR hS hk0 hm0 iX3_start_3 wX3_start_21 dX3_start_38 (fun H locs hR hS => ?_)
      generalize teu S1 k0 (2 + 10 * m0 + 4) x1 = S2 at hf hR
      replace hf := lt1_e hf
      refine lv_aload_n hx hb dX3_start_41 rfl (lv_at hl 0 rfl) ?_
      refine lv_iconst (v := (0 : Int32)) hx hb dX3_start_42 (by decide) ?_
      refine rp_3_2 X hR hS hk0 hm0 iX3_start_3 wX3_start_25 dX3_start_43 (fun H locs hR hS => ?_)
      generalize teu S2 k0 (2 + 10 * m0 + 5) (0 : Int32) = S3 at hf hR
      replace hf := lt1_e hf
      refine lv_aload_n hx hb dX3_start_46 rfl (lv_at hl 0 rfl) ?_
      refine lv_iload_n hx hb dX3_start_47 rfl (lv_at hl 2 rfl) ?_
      refine rp_3_3 X hR hS hk0 hm0 iX3_start_3 wX3_start_28 dX3_start_48 (fun H locs hR hS => ?_)
      generalize teu S3 k0 (2 + 10 * m0 + 6) x3 = S4 at hf hR
      replace hf := lt1_e hf
      refine lv_aload_n hx hb dX3_start_51 rfl (lv_at hl 0 rfl) ?_
      refine lv_iconst (v := (0 : Int32)) hx hb dX3_start_52 (by decide) ?_
      refine rp_3_4 X hR hS hk0 hm0 iX3_start_3 wX3_start_31 dX3_start_53 (fun H locs hR hS => ?_)
      generalize teu S4 k0 (2 + 10 * m0 + 7) (0 : Int32) = S5 at hf hR
      replace hf := lt1_e hf
      refine lv_aload_n hx hb dX3_start_56 rfl (lv_at hl 0 rfl) ?_
      refine lv_sipush (v := (-9999 : Int32)) hx hb dX3_start_57 (by decide) ?_
      refine rp_3_5 X hR hS hk0 hm0 iX3_start_3 wX3_start_34 dX3_start_60 (fun H locs hR hS => ?_)
      generalize teu S5 k0 (2 + 10 * m0 + 8) (-9999 : Int32) = S6 at hf hR
      replace hf := lt1_e hf
      refine lv_aload_n hx hb dX3_start_63 rfl (lv_at hl 0 rfl) ?_
      refine lv_iconst (v := (0 : Int32)) hx hb dX3_start_64 (by decide) ?_
      refine rp_3_6 X hR hS hk0 hm0 iX3_start_3 wX3_start_37 dX3_start_65 (fun H locs hR hS => ?_)
      generalize teu S6 k0 (2 + 10 * m0 + 9) (0 : Int32) = S7 at hf hR
      replace hf := lt1_e hf
      exact eV X hR hS (Option.some.inj hf) dX3_start_68
    · replace hf := ite_f c_1 hf
      refine lv_aload_n hx hb dX3_start_11 rfl (lv_at hl 0 rfl) ?_
      refine rg_3_0 X hR hk0 hm0 iX3_start_3 wX3_start_9 dX3_start_12 ?_
      refine lv_iload hx hb dX3_start_15 (lv_at hl 4 rfl) ?_
      refine lv_iload hx hb dX3_start_17 (lv_at hl 3 rfl) ?_
      refine lv_bipush (v := (10 : Int32)) hx hb dX3_start_19 (by decide) ?_
      refine lv_irem hx hb dX3_start_21 (by decide) ?_
      obtain ⟨h_2, hf⟩ := chk_some hf
      refine rs_lev X hR hS hk0 hm0 h_2 dX3_start_22 (fun H locs hR hS => ?_)
      generalize teu S1 k0 (2 + 10 * m0 + v5.toNatClampNeg) (v4 - v4 / (10 : Int32) * (10 : Int32)) = S8 at hf hR
      replace hf := lt1_e hf
      refine lv_iload hx hb dX3_start_23 (lv_at hl 3 rfl) ?_
      refine lv_bipush (v := (10 : Int32)) hx hb dX3_start_25 (by decide) ?_
      refine lv_idiv hx hb dX3_start_27 (by decide) ?_
      refine lv_istore (lv' := [(4, .int (v4 / (10 : Int32))), (0, .ref (ad (20 * k0 + 2 + m0))), (1, .int x1), (3, .int x3), (5, .int v5)]) hx hb dX3_start_28 hl (by decide) rfl (fun ls hl => ?_)
      refine lv_iinc (v := (v5 + (-1 : Int32))) (lv' := [(5, .int (v5 + (-1 : Int32))), (4, .int (v4 / (10 : Int32))), (0, .ref (ad (20 * k0 + 2 + m0))), (1, .int x1), (3, .int x3)]) hx hb dX3_start_30 hl (k := 4) rfl rfl (by decide) rfl (fun ls hl => ?_)
      refine lv_goto (tgt := 6) hx hb dX3_start_33 (by decide) ?_
      exact ih S8 ((v4 / (10 : Int32))) ((v5 + (-1 : Int32))) _ _ _ hR hS (lv_sub hl [2, 3, 4, 1, 0] rfl) hf
set_option maxRecDepth 100000 in
set_option maxHeartbeats 4000000 in
theorem bX3_start_0 {p : Program} {l : Launch} {e : Env} {s : State} {m : MethodId} {args : Array Value} {below : List Frame} {meth : Method} {c : Code} {D : va_G} {cy : Nat → ClassId} {ad : Nat → Nat} {ba : Nat → Prop} {O : Int64} {S : teS}  {k0 : Nat} {m0 : Nat} {x1 : Int32} {x2 : Int32} {x3 : Int32} {res : teS} (hk0 : k0 < 18) (hm0 : m0 < 9) (X : teC wsX3_start RX3 cX3_start 6 none D cy ba p s m args meth c) (H : Heap) (locs : List Loc) (ls : Array Slot) (hR : teR D cy ad ba O S H) (hS : va_S (teA ba) s.heap H locs) (hl : lv_has ls 6 [(0, .ref (ad (20 * k0 + 2 + m0))), (1, .int x1), (2, .int x2), (3, .int x3)]) (hf : fX3_start k0 m0 x1 x2 x3 S = some res) : W p l e (headSpec wsX3_start rmX3_start).room s m args below meth c H locs 0 0 (MQ below (va_Qv (fun (u : teS) => u = res) (fun u t => teR D cy ad ba O u t.heap) (teA ba)) args s 0 0 (teA ba)) (F0 m 0 ls []) := by
  have hx := X.1
  have hb := X.2.1
  have hown := X.2.2.2.2.1
  unfold fX3_start at hf
  refine lv_iload_n hx hb dX3_start_0 rfl (lv_at hl 2 rfl) ?_
  refine lv_istore (lv' := [(4, .int x2), (0, .ref (ad (20 * k0 + 2 + m0))), (1, .int x1), (2, .int x2), (3, .int x3)]) hx hb dX3_start_1 hl (by decide) rfl (fun ls hl => ?_)
  refine lv_iconst (v := (3 : Int32)) hx hb dX3_start_3 (by decide) ?_
  refine lv_istore (lv' := [(5, .int (3 : Int32)), (4, .int x2), (0, .ref (ad (20 * k0 + 2 + m0))), (1, .int x1), (2, .int x2), (3, .int x3)]) hx hb dX3_start_4 hl (by decide) rfl (fun ls hl => ?_)
  exact bX3_start_6 (S := S) (k0 := k0) (m0 := m0) (x1 := x1) (x2 := x2) (x3 := x3) hk0 hm0 X 2000 S (x2) ((3 : Int32)) _ _ _ hR hS (lv_sub hl [2, 3, 5, 1, 0] rfl) hf
theorem zcX3_start (l : Launch) (D : va_G) (cy : Nat → ClassId) (ad : Nat → Nat) (ba : Nat → Prop) (O : Int64) (S : teS) (k0 : Nat) (m0 : Nat) (x1 : Int32) (x2 : Int32) (x3 : Int32) (hk0 : k0 < 18) (hm0 : m0 < 9) (res : teS) (hf : fX3_start k0 m0 x1 x2 x3 S = some res) : cV l yX3_start wsX3_start rmX3_start D cy ad ba O S [.ref (ad (20 * k0 + 2 + m0)), .int x1, .int x2, .int x3] res :=
  te_of (by decide +kernel) rfl (Nat.le_of_ble_eq_true rfl) (fun p e s m below meth c ls X hR hS hl => bX3_start_0 (S := S) (k0 := k0) (m0 := m0) (x1 := x1) (x2 := x2) (x3 := x3) hk0 hm0 X _ _ _ hR hS hl hf)
abbrev rmX3_gainCredits : Room := { frames := 1, cells := 0, slots := 0, locals := 24 }
theorem kdX3_gainCredits : yX3_gainCredits.cls = RX3 ∧ yX3_gainCredits.cls ≠ "java/lang/invoke/MethodHandle" ∧ yX3_gainCredits.cls ≠ "java/lang/invoke/VarHandle" ∧ (parseMethodDescriptor yX3_gainCredits.desc).map (fun d => d.parameters.length) = some 1 := by decide +kernel
theorem wX3_gainCredits_28 : Cond.fieldLink RX3 28 "TandemExchange$Member" "credits" "I" ∈ wsX3_gainCredits := by decide +kernel
theorem iX3_gainCredits_3 : ∀ w ∈ wsX30, w ∈ wsX3_gainCredits := fun _ h => List.mem_cons_of_mem _ (List.mem_append_right _ h)
theorem wX3_gainCredits_40 : Cond.methodLink RX3 40 Lib.Math.min.name ∈ wsX3_gainCredits := by decide +kernel
theorem wX3_gainCredits_mins : Cond.static Lib.Math.min.name ∈ wsX3_gainCredits := by decide +kernel
theorem wX3_gainCredits_mi : Cond.initialized "java/lang/Math" ∈ wsX3_gainCredits := by decide +kernel
theorem wX3_gainCredits_minc : Cond.code Lib.Math.min.name Lib.Math.min.code 2 (some .int) ∈ wsX3_gainCredits := by decide +kernel
theorem wX3_gainCredits_46 : Cond.methodLink RX3 46 Lib.Math.max.name ∈ wsX3_gainCredits := by decide +kernel
theorem wX3_gainCredits_maxs : Cond.static Lib.Math.max.name ∈ wsX3_gainCredits := by decide +kernel
theorem wX3_gainCredits_maxc : Cond.code Lib.Math.max.name Lib.Math.max.code 2 (some .int) ∈ wsX3_gainCredits := by decide +kernel
set_option maxRecDepth 100000 in
set_option maxHeartbeats 4000000 in
theorem bX3_gainCredits_0 {p : Program} {l : Launch} {e : Env} {s : State} {m : MethodId} {args : Array Value} {below : List Frame} {meth : Method} {c : Code} {D : va_G} {cy : Nat → ClassId} {ad : Nat → Nat} {ba : Nat → Prop} {O : Int64} {S : teS}  {k0 : Nat} {m0 : Nat} {x1 : Int32} {res : teS} (hk0 : k0 < 18) (hm0 : m0 < 9) (X : teC wsX3_gainCredits RX3 cX3_gainCredits 2 none D cy ba p s m args meth c) (H : Heap) (locs : List Loc) (ls : Array Slot) (hR : teR D cy ad ba O S H) (hS : va_S (teA ba) s.heap H locs) (hl : lv_has ls 2 [(0, .ref (ad (20 * k0 + 2 + m0))), (1, .int x1)]) (hf : fX3_gainCredits k0 m0 x1 S = some res) : W p l e (headSpec wsX3_gainCredits rmX3_gainCredits).room s m args below meth c H locs 0 0 (MQ below (va_Qv (fun (u : teS) => u = res) (fun u t => teR D cy ad ba O u t.heap) (teA ba)) args s 0 0 (teA ba)) (F0 m 0 ls []) := by
  have hx := X.1
  have hb := X.2.1
  have hown := X.2.2.2.2.1
  unfold fX3_gainCredits at hf
  refine lv_aload_n hx hb dX3_gainCredits_0 rfl (lv_at hl 0 rfl) ?_
  refine lv_bipush (v := (-99 : Int32)) hx hb dX3_gainCredits_1 (by decide) ?_
  refine lv_bipush (v := (99 : Int32)) hx hb dX3_gainCredits_3 (by decide) ?_
  refine lv_aload_n hx hb dX3_gainCredits_5 rfl (lv_at hl 0 rfl) ?_
  refine rg_3_3 X hR hk0 hm0 iX3_gainCredits_3 wX3_gainCredits_28 dX3_gainCredits_6 ?_
  refine lv_iload_n hx hb dX3_gainCredits_9 rfl (lv_at hl 1 rfl) ?_
  refine lv_iadd hx hb dX3_gainCredits_10 ?_
  refine va_mmin hx hb (X.2.2.1.trans hl.1.symm) hown (X.2.2.2.2.2.1 _ wX3_gainCredits_40) (X.2.2.2.2.2.1 _ wX3_gainCredits_mins) (X.2.2.2.2.2.1 _ wX3_gainCredits_mi) (X.2.2.2.2.2.1 _ wX3_gainCredits_minc) (Nat.le_of_ble_eq_true rfl) (Nat.le_of_ble_eq_true rfl) (Nat.zero_le _) (Nat.zero_le _) dX3_gainCredits_11 ?_
  refine va_mmax hx hb (X.2.2.1.trans hl.1.symm) hown (X.2.2.2.2.2.1 _ wX3_gainCredits_46) (X.2.2.2.2.2.1 _ wX3_gainCredits_maxs) (X.2.2.2.2.2.1 _ wX3_gainCredits_mi) (X.2.2.2.2.2.1 _ wX3_gainCredits_maxc) (Nat.le_of_ble_eq_true rfl) (Nat.le_of_ble_eq_true rfl) (Nat.zero_le _) (Nat.zero_le _) dX3_gainCredits_14 ?_
  refine rp_3_3 X hR hS hk0 hm0 iX3_gainCredits_3 wX3_gainCredits_28 dX3_gainCredits_17 (fun H locs hR hS => ?_)
  generalize teu S k0 (2 + 10 * m0 + 6) (if (-99 : Int32) < (if ((S k0 (2 + 10 * m0 + 6)) + x1) < (99 : Int32) then ((S k0 (2 + 10 * m0 + 6)) + x1) else (99 : Int32)) then (if ((S k0 (2 + 10 * m0 + 6)) + x1) < (99 : Int32) then ((S k0 (2 + 10 * m0 + 6)) + x1) else (99 : Int32)) else (-99 : Int32)) = S1 at hf hR
  replace hf := lt1_e hf
  exact eV X hR hS (Option.some.inj hf) dX3_gainCredits_20
theorem zcX3_gainCredits (l : Launch) (D : va_G) (cy : Nat → ClassId) (ad : Nat → Nat) (ba : Nat → Prop) (O : Int64) (S : teS) (k0 : Nat) (m0 : Nat) (x1 : Int32) (hk0 : k0 < 18) (hm0 : m0 < 9) (res : teS) (hf : fX3_gainCredits k0 m0 x1 S = some res) : cV l yX3_gainCredits wsX3_gainCredits rmX3_gainCredits D cy ad ba O S [.ref (ad (20 * k0 + 2 + m0)), .int x1] res :=
  te_of (by decide +kernel) rfl (Nat.le_of_ble_eq_true rfl) (fun p e s m below meth c ls X hR hS hl => bX3_gainCredits_0 (S := S) (k0 := k0) (m0 := m0) (x1 := x1) hk0 hm0 X _ _ _ hR hS hl hf)
abbrev rmX3_failToMeet : Room := { frames := 2, cells := 0, slots := 0, locals := 45 }
theorem kdX3_failToMeet : yX3_failToMeet.cls = RX3 ∧ yX3_failToMeet.cls ≠ "java/lang/invoke/MethodHandle" ∧ yX3_failToMeet.cls ≠ "java/lang/invoke/VarHandle" ∧ (parseMethodDescriptor yX3_failToMeet.desc).map (fun d => d.parameters.length) = some 1 := by decide +kernel
theorem wX3_failToMeet_37 : Cond.fieldLink RX3 37 "TandemExchange$Member" "missedInRow" "I" ∈ wsX3_failToMeet := by decide +kernel
theorem iX3_failToMeet_3 : ∀ w ∈ wsX30, w ∈ wsX3_failToMeet := fun _ h => List.mem_cons_of_mem _ (List.mem_append_right _ h)
theorem wX3_failToMeet_31 : Cond.fieldLink RX3 31 "TandemExchange$Member" "missed" "I" ∈ wsX3_failToMeet := by decide +kernel
set_option maxRecDepth 100000 in
set_option maxHeartbeats 4000000 in
theorem bX3_failToMeet_0 {p : Program} {l : Launch} {e : Env} {s : State} {m : MethodId} {args : Array Value} {below : List Frame} {meth : Method} {c : Code} {D : va_G} {cy : Nat → ClassId} {ad : Nat → Nat} {ba : Nat → Prop} {O : Int64} {S : teS}  {k0 : Nat} {m0 : Nat} {x1 : Int32} {res : teS} (hk0 : k0 < 18) (hm0 : m0 < 9) (X : teC wsX3_failToMeet RX3 cX3_failToMeet 2 none D cy ba p s m args meth c) (H : Heap) (locs : List Loc) (ls : Array Slot) (hR : teR D cy ad ba O S H) (hS : va_S (teA ba) s.heap H locs) (hl : lv_has ls 2 [(0, .ref (ad (20 * k0 + 2 + m0))), (1, .int x1)]) (hf : fX3_failToMeet k0 m0 x1 S = some res) : W p l e (headSpec wsX3_failToMeet rmX3_failToMeet).room s m args below meth c H locs 0 0 (MQ below (va_Qv (fun (u : teS) => u = res) (fun u t => teR D cy ad ba O u t.heap) (teA ba)) args s 0 0 (teA ba)) (F0 m 0 ls []) := by
  have hx := X.1
  have hb := X.2.1
  have hown := X.2.2.2.2.1
  unfold fX3_failToMeet at hf
  refine lv_aload_n hx hb dX3_failToMeet_0 rfl (lv_at hl 0 rfl) ?_
  refine lv_dup hx hb dX3_failToMeet_1 rfl ?_
  refine rg_3_6 X hR hk0 hm0 iX3_failToMeet_3 wX3_failToMeet_37 dX3_failToMeet_2 ?_
  refine lv_iconst (v := (1 : Int32)) hx hb dX3_failToMeet_5 (by decide) ?_
  refine lv_iadd hx hb dX3_failToMeet_6 ?_
  refine rp_3_6 X hR hS hk0 hm0 iX3_failToMeet_3 wX3_failToMeet_37 dX3_failToMeet_7 (fun H locs hR hS => ?_)
  generalize teu S k0 (2 + 10 * m0 + 9) ((S k0 (2 + 10 * m0 + 9)) + (1 : Int32)) = S1 at hf hR
  replace hf := lt1_e hf
  refine lv_iload_n hx hb dX3_failToMeet_10 rfl (lv_at hl 1 rfl) ?_
  refine lv_if_eq (tgt := 33) hx hb dX3_failToMeet_11 (by decide) (fun c_1 => ?_) (fun c_1 => ?_)
  · replace hf := ite_t c_1 hf
    refine lv_aload_n hx hb dX3_failToMeet_33 rfl (lv_at hl 0 rfl) ?_
    refine lv_iconst (v := (2 : Int32)) hx hb dX3_failToMeet_34 (by decide) ?_
    obtain ⟨S2, hq_3, hf⟩ := bd1_some hf
    refine kVv (id := (20 * k0 + 2 + m0)) (As := [.int (2 : Int32)]) (rest := []) X hR hS (zcX3_gainCredits l D cy ad ba O S1 k0 m0 (2 : Int32) hk0 hm0 _ hq_3) (cwV 1 X.2.2.2.2.2.1 gX3_failToMeet_X3_gainCredits rfl rfl rfl kdX3_gainCredits ⟨(Nat.le_of_ble_eq_true rfl), (Nat.le_of_ble_eq_true rfl)⟩) (te_idm hk0 hm0) (teE_memb cy ad O S1 hk0 hm0) rfl rfl rfl hl.1 (Nat.le_of_ble_eq_true rfl) ⟨(Nat.le_of_ble_eq_true rfl), (Nat.le_of_ble_eq_true rfl)⟩ dX3_failToMeet_35 (fun H locs hR hS => ?_)
    exact eV X hR hS (Option.some.inj hf) dX3_failToMeet_38
  · replace hf := ite_f c_1 hf
    refine lv_aload_n hx hb dX3_failToMeet_14 rfl (lv_at hl 0 rfl) ?_
    refine lv_dup hx hb dX3_failToMeet_15 rfl ?_
    refine rg_3_4 X hR hk0 hm0 iX3_failToMeet_3 wX3_failToMeet_31 dX3_failToMeet_16 ?_
    refine lv_iconst (v := (1 : Int32)) hx hb dX3_failToMeet_19 (by decide) ?_
    refine lv_iadd hx hb dX3_failToMeet_20 ?_
    refine rp_3_4 X hR hS hk0 hm0 iX3_failToMeet_3 wX3_failToMeet_31 dX3_failToMeet_21 (fun H locs hR hS => ?_)
    generalize teu S1 k0 (2 + 10 * m0 + 7) ((S1 k0 (2 + 10 * m0 + 7)) + (1 : Int32)) = S3 at hf hR
    replace hf := lt1_e hf
    refine lv_aload_n hx hb dX3_failToMeet_24 rfl (lv_at hl 0 rfl) ?_
    refine lv_bipush (v := (-3 : Int32)) hx hb dX3_failToMeet_25 (by decide) ?_
    obtain ⟨S4, hq_5, hf⟩ := bd1_some hf
    refine kVv (id := (20 * k0 + 2 + m0)) (As := [.int (-3 : Int32)]) (rest := []) X hR hS (zcX3_gainCredits l D cy ad ba O S3 k0 m0 (-3 : Int32) hk0 hm0 _ hq_5) (cwV 1 X.2.2.2.2.2.1 gX3_failToMeet_X3_gainCredits rfl rfl rfl kdX3_gainCredits ⟨(Nat.le_of_ble_eq_true rfl), (Nat.le_of_ble_eq_true rfl)⟩) (te_idm hk0 hm0) (teE_memb cy ad O S3 hk0 hm0) rfl rfl rfl hl.1 (Nat.le_of_ble_eq_true rfl) ⟨(Nat.le_of_ble_eq_true rfl), (Nat.le_of_ble_eq_true rfl)⟩ dX3_failToMeet_27 (fun H locs hR hS => ?_)
    refine lv_goto (tgt := 38) hx hb dX3_failToMeet_30 (by decide) ?_
    exact eV X hR hS (Option.some.inj hf) dX3_failToMeet_38
theorem zcX3_failToMeet (l : Launch) (D : va_G) (cy : Nat → ClassId) (ad : Nat → Nat) (ba : Nat → Prop) (O : Int64) (S : teS) (k0 : Nat) (m0 : Nat) (x1 : Int32) (hk0 : k0 < 18) (hm0 : m0 < 9) (res : teS) (hf : fX3_failToMeet k0 m0 x1 S = some res) : cV l yX3_failToMeet wsX3_failToMeet rmX3_failToMeet D cy ad ba O S [.ref (ad (20 * k0 + 2 + m0)), .int x1] res :=
  te_of (by decide +kernel) rfl (Nat.le_of_ble_eq_true rfl) (fun p e s m below meth c ls X hR hS hl => bX3_failToMeet_0 (S := S) (k0 := k0) (m0 := m0) (x1 := x1) hk0 hm0 X _ _ _ hR hS hl hf)
abbrev rmX3_learn : Room := { frames := 0, cells := 0, slots := 0, locals := 0 }
theorem kdX3_learn : yX3_learn.cls = RX3 ∧ yX3_learn.cls ≠ "java/lang/invoke/MethodHandle" ∧ yX3_learn.cls ≠ "java/lang/invoke/VarHandle" ∧ (parseMethodDescriptor yX3_learn.desc).map (fun d => d.parameters.length) = some 1 := by decide +kernel
theorem wX3_learn_25 : Cond.fieldLink RX3 25 "TandemExchange$Member" "progress" "I" ∈ wsX3_learn := by decide +kernel
theorem iX3_learn_3 : ∀ w ∈ wsX30, w ∈ wsX3_learn := fun _ h => List.mem_cons_of_mem _ (List.mem_append_right _ h)
theorem wX3_learn_9 : Cond.fieldLink RX3 9 "TandemExchange$Member" "levels" "[I" ∈ wsX3_learn := by decide +kernel
theorem wX3_learn_21 : Cond.fieldLink RX3 21 "TandemExchange$Member" "wants" "I" ∈ wsX3_learn := by decide +kernel
set_option maxRecDepth 100000 in
set_option maxHeartbeats 4000000 in
theorem bX3_learn_57 {p : Program} {l : Launch} {e : Env} {s : State} {m : MethodId} {args : Array Value} {below : List Frame} {meth : Method} {c : Code} {D : va_G} {cy : Nat → ClassId} {ad : Nat → Nat} {ba : Nat → Prop} {O : Int64} {S : teS}  {k0 : Nat} {m0 : Nat} {x1 : Int32} {res : teS} (hk0 : k0 < 18) (hm0 : m0 < 9) (X : teC wsX3_learn RX3 cX3_learn 2 none D cy ba p s m args meth c) : ∀ (S1 : teS) (H : Heap) (locs : List Loc) (ls : Array Slot), teR D cy ad ba O S1 H → va_S (teA ba) s.heap H locs → lv_has ls 2 [(0, .ref (ad (20 * k0 + 2 + m0)))] → fX3_learn_57 k0 m0 x1 S1 = some res → W p l e (headSpec wsX3_learn rmX3_learn).room s m args below meth c H locs 0 0 (MQ below (va_Qv (fun (u : teS) => u = res) (fun u t => teR D cy ad ba O u t.heap) (teA ba)) args s 0 0 (teA ba)) (F0 m 57 ls []) := by
  have hx := X.1
  have hb := X.2.1
  have hown := X.2.2.2.2.1
  intro S1 H locs ls hR hS hl hf
  unfold fX3_learn_57 at hf
  refine lv_aload_n hx hb dX3_learn_57 rfl (lv_at hl 0 rfl) ?_
  refine rg_3_0 X hR hk0 hm0 iX3_learn_3 wX3_learn_9 dX3_learn_58 ?_
  refine lv_aload_n hx hb dX3_learn_61 rfl (lv_at hl 0 rfl) ?_
  refine rg_3_1 X hR hk0 hm0 iX3_learn_3 wX3_learn_21 dX3_learn_62 ?_
  obtain ⟨h_4, hf⟩ := chk_some hf
  refine ra_lev X hR hk0 hm0 h_4 dX3_learn_65 ?_
  refine lv_bipush (v := (9 : Int32)) hx hb dX3_learn_66 (by decide) ?_
  refine lv_icmp_ne (tgt := 76) hx hb dX3_learn_68 (by decide) (fun c_5 => ?_) (fun c_5 => ?_)
  · replace hf := ite_f c_5 hf
    exact eV X hR hS (Option.some.inj hf) dX3_learn_76
  · replace hf := ite_t c_5 hf
    refine lv_aload_n hx hb dX3_learn_71 rfl (lv_at hl 0 rfl) ?_
    refine lv_iconst (v := (0 : Int32)) hx hb dX3_learn_72 (by decide) ?_
    refine rp_3_2 X hR hS hk0 hm0 iX3_learn_3 wX3_learn_25 dX3_learn_73 (fun H locs hR hS => ?_)
    generalize teu S1 k0 (2 + 10 * m0 + 5) (0 : Int32) = S2 at hf hR
    replace hf := lt1_e hf
    exact eV X hR hS (Option.some.inj hf) dX3_learn_76
set_option maxRecDepth 100000 in
set_option maxHeartbeats 4000000 in
theorem bX3_learn_0 {p : Program} {l : Launch} {e : Env} {s : State} {m : MethodId} {args : Array Value} {below : List Frame} {meth : Method} {c : Code} {D : va_G} {cy : Nat → ClassId} {ad : Nat → Nat} {ba : Nat → Prop} {O : Int64} {S : teS}  {k0 : Nat} {m0 : Nat} {x1 : Int32} {res : teS} (hk0 : k0 < 18) (hm0 : m0 < 9) (X : teC wsX3_learn RX3 cX3_learn 2 none D cy ba p s m args meth c) (H : Heap) (locs : List Loc) (ls : Array Slot) (hR : teR D cy ad ba O S H) (hS : va_S (teA ba) s.heap H locs) (hl : lv_has ls 2 [(0, .ref (ad (20 * k0 + 2 + m0))), (1, .int x1)]) (hf : fX3_learn k0 m0 x1 S = some res) : W p l e (headSpec wsX3_learn rmX3_learn).room s m args below meth c H locs 0 0 (MQ below (va_Qv (fun (u : teS) => u = res) (fun u t => teR D cy ad ba O u t.heap) (teA ba)) args s 0 0 (teA ba)) (F0 m 0 ls []) := by
  have hx := X.1
  have hb := X.2.1
  have hown := X.2.2.2.2.1
  unfold fX3_learn at hf
  refine lv_aload_n hx hb dX3_learn_0 rfl (lv_at hl 0 rfl) ?_
  refine lv_dup hx hb dX3_learn_1 rfl ?_
  refine rg_3_2 X hR hk0 hm0 iX3_learn_3 wX3_learn_25 dX3_learn_2 ?_
  refine lv_iload_n hx hb dX3_learn_5 rfl (lv_at hl 1 rfl) ?_
  refine lv_iadd hx hb dX3_learn_6 ?_
  refine rp_3_2 X hR hS hk0 hm0 iX3_learn_3 wX3_learn_25 dX3_learn_7 (fun H locs hR hS => ?_)
  generalize teu S k0 (2 + 10 * m0 + 5) ((S k0 (2 + 10 * m0 + 5)) + x1) = S1 at hf hR
  replace hf := lt1_e hf
  refine lv_aload_n hx hb dX3_learn_10 rfl (lv_at hl 0 rfl) ?_
  refine rg_3_2 X hR hk0 hm0 iX3_learn_3 wX3_learn_25 dX3_learn_11 ?_
  refine lv_bipush (v := (20 : Int32)) hx hb dX3_learn_14 (by decide) ?_
  refine lv_icmp_lt (tgt := 57) hx hb dX3_learn_16 (by decide) (fun c_1 => ?_) (fun c_1 => ?_)
  · replace hf := ite_t c_1 hf
    exact bX3_learn_57 (S := S) (k0 := k0) (m0 := m0) (x1 := x1) hk0 hm0 X S1 _ _ _ hR hS (lv_sub hl [0] rfl) hf
  · replace hf := ite_f c_1 hf
    refine lv_aload_n hx hb dX3_learn_19 rfl (lv_at hl 0 rfl) ?_
    refine rg_3_0 X hR hk0 hm0 iX3_learn_3 wX3_learn_9 dX3_learn_20 ?_
    refine lv_aload_n hx hb dX3_learn_23 rfl (lv_at hl 0 rfl) ?_
    refine rg_3_1 X hR hk0 hm0 iX3_learn_3 wX3_learn_21 dX3_learn_24 ?_
    obtain ⟨h_2, hf⟩ := chk_some hf
    refine ra_lev X hR hk0 hm0 h_2 dX3_learn_27 ?_
    refine lv_bipush (v := (9 : Int32)) hx hb dX3_learn_28 (by decide) ?_
    refine lv_icmp_ge (tgt := 57) hx hb dX3_learn_30 (by decide) (fun c_3 => ?_) (fun c_3 => ?_)
    · replace hf := ite_t c_3 hf
      exact bX3_learn_57 (S := S) (k0 := k0) (m0 := m0) (x1 := x1) hk0 hm0 X S1 _ _ _ hR hS (lv_sub hl [0] rfl) hf
    · replace hf := ite_f c_3 hf
      refine lv_aload_n hx hb dX3_learn_33 rfl (lv_at hl 0 rfl) ?_
      refine rg_3_0 X hR hk0 hm0 iX3_learn_3 wX3_learn_9 dX3_learn_34 ?_
      refine lv_aload_n hx hb dX3_learn_37 rfl (lv_at hl 0 rfl) ?_
      refine rg_3_1 X hR hk0 hm0 iX3_learn_3 wX3_learn_21 dX3_learn_38 ?_
      refine lv_dup2_11 hx hb dX3_learn_41 rfl rfl ?_
      refine ra_lev X hR hk0 hm0 h_2 dX3_learn_42 ?_
      refine lv_iconst (v := (1 : Int32)) hx hb dX3_learn_43 (by decide) ?_
      refine lv_iadd hx hb dX3_learn_44 ?_
      refine rs_lev X hR hS hk0 hm0 h_2 dX3_learn_45 (fun H locs hR hS => ?_)
      generalize teu S1 k0 (2 + 10 * m0 + (S1 k0 (2 + 10 * m0 + 4)).toNatClampNeg) ((S1 k0 (2 + 10 * m0 + (S1 k0 (2 + 10 * m0 + 4)).toNatClampNeg)) + (1 : Int32)) = S2 at hf hR
      replace hf := lt1_e hf
      refine lv_aload_n hx hb dX3_learn_46 rfl (lv_at hl 0 rfl) ?_
      refine lv_dup hx hb dX3_learn_47 rfl ?_
      refine rg_3_2 X hR hk0 hm0 iX3_learn_3 wX3_learn_25 dX3_learn_48 ?_
      refine lv_bipush (v := (20 : Int32)) hx hb dX3_learn_51 (by decide) ?_
      refine lv_isub hx hb dX3_learn_53 ?_
      refine rp_3_2 X hR hS hk0 hm0 iX3_learn_3 wX3_learn_25 dX3_learn_54 (fun H locs hR hS => ?_)
      generalize teu S2 k0 (2 + 10 * m0 + 5) ((S2 k0 (2 + 10 * m0 + 5)) - (20 : Int32)) = S3 at hf hR
      replace hf := lt1_e hf
      exact bX3_learn_57 (S := S) (k0 := k0) (m0 := m0) (x1 := x1) hk0 hm0 X S3 _ _ _ hR hS (lv_sub hl [0] rfl) hf
theorem zcX3_learn (l : Launch) (D : va_G) (cy : Nat → ClassId) (ad : Nat → Nat) (ba : Nat → Prop) (O : Int64) (S : teS) (k0 : Nat) (m0 : Nat) (x1 : Int32) (hk0 : k0 < 18) (hm0 : m0 < 9) (res : teS) (hf : fX3_learn k0 m0 x1 S = some res) : cV l yX3_learn wsX3_learn rmX3_learn D cy ad ba O S [.ref (ad (20 * k0 + 2 + m0)), .int x1] res :=
  te_of (by decide +kernel) rfl (Nat.le_of_ble_eq_true rfl) (fun p e s m below meth c ls X hR hS hl => bX3_learn_0 (S := S) (k0 := k0) (m0 := m0) (x1 := x1) hk0 hm0 X _ _ _ hR hS hl hf)
abbrev rmX3_meet : Room := { frames := 2, cells := 0, slots := 0, locals := 45 }
theorem kdX3_meet : yX3_meet.cls = RX3 ∧ yX3_meet.cls ≠ "java/lang/invoke/MethodHandle" ∧ yX3_meet.cls ≠ "java/lang/invoke/VarHandle" ∧ (parseMethodDescriptor yX3_meet.desc).map (fun d => d.parameters.length) = some 1 := by decide +kernel
theorem wX3_meet_37 : Cond.fieldLink RX3 37 "TandemExchange$Member" "missedInRow" "I" ∈ wsX3_meet := by decide +kernel
theorem iX3_meet_3 : ∀ w ∈ wsX30, w ∈ wsX3_meet := fun _ h => List.mem_cons_of_mem _ (List.mem_append_right _ h)
set_option maxRecDepth 100000 in
set_option maxHeartbeats 4000000 in
theorem bX3_meet_0 {p : Program} {l : Launch} {e : Env} {s : State} {m : MethodId} {args : Array Value} {below : List Frame} {meth : Method} {c : Code} {D : va_G} {cy : Nat → ClassId} {ad : Nat → Nat} {ba : Nat → Prop} {O : Int64} {S : teS}  {k0 : Nat} {m0 : Nat} {x1 : Int32} {res : teS} (hk0 : k0 < 18) (hm0 : m0 < 9) (X : teC wsX3_meet RX3 cX3_meet 2 none D cy ba p s m args meth c) (H : Heap) (locs : List Loc) (ls : Array Slot) (hR : teR D cy ad ba O S H) (hS : va_S (teA ba) s.heap H locs) (hl : lv_has ls 2 [(0, .ref (ad (20 * k0 + 2 + m0))), (1, .int x1)]) (hf : fX3_meet k0 m0 x1 S = some res) : W p l e (headSpec wsX3_meet rmX3_meet).room s m args below meth c H locs 0 0 (MQ below (va_Qv (fun (u : teS) => u = res) (fun u t => teR D cy ad ba O u t.heap) (teA ba)) args s 0 0 (teA ba)) (F0 m 0 ls []) := by
  have hx := X.1
  have hb := X.2.1
  have hown := X.2.2.2.2.1
  unfold fX3_meet at hf
  refine lv_aload_n hx hb dX3_meet_0 rfl (lv_at hl 0 rfl) ?_
  refine lv_iconst (v := (0 : Int32)) hx hb dX3_meet_1 (by decide) ?_
  refine rp_3_6 X hR hS hk0 hm0 iX3_meet_3 wX3_meet_37 dX3_meet_2 (fun H locs hR hS => ?_)
  generalize teu S k0 (2 + 10 * m0 + 9) (0 : Int32) = S1 at hf hR
  replace hf := lt1_e hf
  refine lv_aload_n hx hb dX3_meet_5 rfl (lv_at hl 0 rfl) ?_
  refine lv_iconst (v := (1 : Int32)) hx hb dX3_meet_6 (by decide) ?_
  obtain ⟨S2, hq_2, hf⟩ := bd1_some hf
  refine kVv (id := (20 * k0 + 2 + m0)) (As := [.int (1 : Int32)]) (rest := []) X hR hS (zcX3_gainCredits l D cy ad ba O S1 k0 m0 (1 : Int32) hk0 hm0 _ hq_2) (cwV 1 X.2.2.2.2.2.1 gX3_meet_X3_gainCredits rfl rfl rfl kdX3_gainCredits ⟨(Nat.le_of_ble_eq_true rfl), (Nat.le_of_ble_eq_true rfl)⟩) (te_idm hk0 hm0) (teE_memb cy ad O S1 hk0 hm0) rfl rfl rfl hl.1 (Nat.le_of_ble_eq_true rfl) ⟨(Nat.le_of_ble_eq_true rfl), (Nat.le_of_ble_eq_true rfl)⟩ dX3_meet_7 (fun H locs hR hS => ?_)
  refine lv_aload_n hx hb dX3_meet_10 rfl (lv_at hl 0 rfl) ?_
  refine lv_iload_n hx hb dX3_meet_11 rfl (lv_at hl 1 rfl) ?_
  obtain ⟨S3, hq_4, hf⟩ := bd1_some hf
  refine kVv (id := (20 * k0 + 2 + m0)) (As := [.int x1]) (rest := []) X hR hS (zcX3_learn l D cy ad ba O S2 k0 m0 x1 hk0 hm0 _ hq_4) (cwV 1 X.2.2.2.2.2.1 gX3_meet_X3_learn rfl rfl rfl kdX3_learn ⟨(Nat.le_of_ble_eq_true rfl), (Nat.le_of_ble_eq_true rfl)⟩) (te_idm hk0 hm0) (teE_memb cy ad O S2 hk0 hm0) rfl rfl rfl hl.1 (Nat.le_of_ble_eq_true rfl) ⟨(Nat.le_of_ble_eq_true rfl), (Nat.le_of_ble_eq_true rfl)⟩ dX3_meet_12 (fun H locs hR hS => ?_)
  exact eV X hR hS (Option.some.inj hf) dX3_meet_15
theorem zcX3_meet (l : Launch) (D : va_G) (cy : Nat → ClassId) (ad : Nat → Nat) (ba : Nat → Prop) (O : Int64) (S : teS) (k0 : Nat) (m0 : Nat) (x1 : Int32) (hk0 : k0 < 18) (hm0 : m0 < 9) (res : teS) (hf : fX3_meet k0 m0 x1 S = some res) : cV l yX3_meet wsX3_meet rmX3_meet D cy ad ba O S [.ref (ad (20 * k0 + 2 + m0)), .int x1] res :=
  te_of (by decide +kernel) rfl (Nat.le_of_ble_eq_true rfl) (fun p e s m below meth c ls X hR hS hl => bX3_meet_0 (S := S) (k0 := k0) (m0 := m0) (x1 := x1) hk0 hm0 X _ _ _ hR hS hl hf)
abbrev rmX3_wantedLevel : Room := { frames := 0, cells := 0, slots := 0, locals := 0 }
theorem kdX3_wantedLevel : yX3_wantedLevel.cls = RX3 ∧ yX3_wantedLevel.cls ≠ "java/lang/invoke/MethodHandle" ∧ yX3_wantedLevel.cls ≠ "java/lang/invoke/VarHandle" ∧ (parseMethodDescriptor yX3_wantedLevel.desc).map (fun d => d.parameters.length) = some 0 := by decide +kernel
theorem wX3_wantedLevel_9 : Cond.fieldLink RX3 9 "TandemExchange$Member" "levels" "[I" ∈ wsX3_wantedLevel := by decide +kernel
theorem iX3_wantedLevel_3 : ∀ w ∈ wsX30, w ∈ wsX3_wantedLevel := fun _ h => List.mem_cons_of_mem _ (List.mem_append_right _ h)
theorem wX3_wantedLevel_21 : Cond.fieldLink RX3 21 "TandemExchange$Member" "wants" "I" ∈ wsX3_wantedLevel := by decide +kernel
set_option maxRecDepth 100000 in
set_option maxHeartbeats 4000000 in
theorem bX3_wantedLevel_0 {p : Program} {l : Launch} {e : Env} {s : State} {m : MethodId} {args : Array Value} {below : List Frame} {meth : Method} {c : Code} {D : va_G} {cy : Nat → ClassId} {ad : Nat → Nat} {ba : Nat → Prop} {O : Int64} {S : teS}  {k0 : Nat} {m0 : Nat} {res : Int32} (hk0 : k0 < 18) (hm0 : m0 < 9) (X : teC wsX3_wantedLevel RX3 cX3_wantedLevel 1 (some .int) D cy ba p s m args meth c) (H : Heap) (locs : List Loc) (ls : Array Slot) (hR : teR D cy ad ba O S H) (hS : va_S (teA ba) s.heap H locs) (hl : lv_has ls 1 [(0, .ref (ad (20 * k0 + 2 + m0)))]) (hf : fX3_wantedLevel k0 m0 S = some res) : W p l e (headSpec wsX3_wantedLevel rmX3_wantedLevel).room s m args below meth c H locs 0 0 (MQ below (va_Qi (fun a (u : teS) => a = res ∧ u = S) (fun u t => teR D cy ad ba O u t.heap) (teA ba)) args s 0 0 (teA ba)) (F0 m 0 ls []) := by
  have hx := X.1
  have hb := X.2.1
  have hown := X.2.2.2.2.1
  unfold fX3_wantedLevel at hf
  refine lv_aload_n hx hb dX3_wantedLevel_0 rfl (lv_at hl 0 rfl) ?_
  refine rg_3_0 X hR hk0 hm0 iX3_wantedLevel_3 wX3_wantedLevel_9 dX3_wantedLevel_1 ?_
  refine lv_aload_n hx hb dX3_wantedLevel_4 rfl (lv_at hl 0 rfl) ?_
  refine rg_3_1 X hR hk0 hm0 iX3_wantedLevel_3 wX3_wantedLevel_21 dX3_wantedLevel_5 ?_
  obtain ⟨h_1, hf⟩ := chk_some hf
  refine ra_lev X hR hk0 hm0 h_1 dX3_wantedLevel_8 ?_
  exact eI X hR hS (Option.some.inj hf) rfl dX3_wantedLevel_9
theorem zcX3_wantedLevel (l : Launch) (D : va_G) (cy : Nat → ClassId) (ad : Nat → Nat) (ba : Nat → Prop) (O : Int64) (S : teS) (k0 : Nat) (m0 : Nat) (hk0 : k0 < 18) (hm0 : m0 < 9) (res : Int32) (hf : fX3_wantedLevel k0 m0 S = some res) : cI l yX3_wantedLevel wsX3_wantedLevel rmX3_wantedLevel D cy ad ba O S [.ref (ad (20 * k0 + 2 + m0))] res S :=
  te_of (by decide +kernel) rfl (Nat.le_of_ble_eq_true rfl) (fun p e s m below meth c ls X hR hS hl => bX3_wantedLevel_0 (S := S) (k0 := k0) (m0 := m0) hk0 hm0 X _ _ _ hR hS hl hf)
