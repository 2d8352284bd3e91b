abbrev rmX0_rankWith : Room := { frames := 3, cells := 0, slots := 0, locals := 68 }
theorem kdX0_rankWith : yX0_rankWith.cls = RX0 ∧ yX0_rankWith.cls ≠ "java/lang/invoke/MethodHandle" ∧ yX0_rankWith.cls ≠ "java/lang/invoke/VarHandle" ∧ (parseMethodDescriptor yX0_rankWith.desc).map (fun d => d.parameters.length) = some 3 := by decide +kernel
theorem wX0_rankWith_9 : Cond.fieldLink RX0 9 "TandemExchange$BestMatching" "ranks" "[I" ∈ wsX0_rankWith := by decide +kernel
theorem iX0_rankWith_0 : ∀ w ∈ wsX00, w ∈ wsX0_rankWith := by decide +kernel
theorem wX0_rankWith_29 : Cond.constant RX0 29 (1000000) ∈ wsX0_rankWith := by decide +kernel
theorem wX0_rankWith_34 : Cond.methodLink RX0 34 Lib.Math.max.name ∈ wsX0_rankWith := by decide +kernel
theorem wX0_rankWith_maxs : Cond.static Lib.Math.max.name ∈ wsX0_rankWith := by decide +kernel
theorem wX0_rankWith_mi : Cond.initialized "java/lang/Math" ∈ wsX0_rankWith := by decide +kernel
theorem wX0_rankWith_maxc : Cond.code Lib.Math.max.name Lib.Math.max.code 2 (some .int) ∈ wsX0_rankWith := by decide +kernel
set_option maxRecDepth 100000 in
set_option maxHeartbeats 4000000 in
theorem bX0_rankWith_11 {p : Program} {l : Launch} {e : Env} {s : State} {m : MethodId} {args : Array Value} {below : List Frame} {meth : Method} {c : Code} {D : va_G} {cy : Nat → ClassId} {ad : Nat → Nat} {ba : Nat → Prop} {O : Int64} {S : teS}  {k1 : Nat} {x2 : Int32} {x3 : Int32} {res : Int32} (hk1 : k1 < 18) (X : teC wsX0_rankWith RX0 cX0_rankWith 7 (some .int) D cy ba p s m args meth c) : ∀ (n : Nat), ∀  (v4 : Int32) (v5 : Int32) (H : Heap) (locs : List Loc) (ls : Array Slot), teR D cy ad ba O S H → va_S (teA ba) s.heap H locs → lv_has ls 7 [(0, .ref (ad 367)), (1, .ref (ad (20 * k1))), (2, .int x2), (3, .int x3), (4, .int v4), (5, .int v5)] → fX0_rankWith_11 k1 x2 x3 n S v4 v5 = some res → W p l e (headSpec wsX0_rankWith rmX0_rankWith).room s m args below meth c H locs 0 0 (MQ below (va_Qi (fun a (u : teS) => a = res ∧ u = S) (fun u t => teR D cy ad ba O u t.heap) (teA ba)) args s 0 0 (teA ba)) (F0 m 11 ls []) := by
  have hx := X.1
  have hb := X.2.1
  have hown := X.2.2.2.2.1
  intro n
  induction n with
  | zero =>
    intro v4 v5 H locs ls hR hS hl hf
    exact nomatch hf
  | succ n ih =>
    intro v4 v5 H locs ls hR hS hl hf
    unfold fX0_rankWith_11 at hf
    refine lv_iload hx hb dX0_rankWith_11 (lv_at hl 5 rfl) ?_
    refine lv_iload_n hx hb dX0_rankWith_13 rfl (lv_at hl 2 rfl) ?_
    refine lv_icmp_ge (tgt := 78) hx hb dX0_rankWith_14 (by decide) (fun c_2 => ?_) (fun c_2 => ?_)
    · replace hf := ite_t c_2 hf
      refine lv_iload hx hb dX0_rankWith_78 (lv_at hl 4 rfl) ?_
      exact eI X hR hS (Option.some.inj hf) rfl dX0_rankWith_80
    · replace hf := ite_f c_2 hf
      refine lv_iload_n hx hb dX0_rankWith_17 rfl (lv_at hl 3 rfl) ?_
      refine lv_iload hx hb dX0_rankWith_18 (lv_at hl 5 rfl) ?_
      refine lv_ishr hx hb dX0_rankWith_20 ?_
      refine lv_iconst (v := (1 : Int32)) hx hb dX0_rankWith_21 (by decide) ?_
      refine lv_iand hx hb dX0_rankWith_22 ?_
      refine lv_iconst (v := (1 : Int32)) hx hb dX0_rankWith_23 (by decide) ?_
      refine lv_icmp_ne (tgt := 72) hx hb dX0_rankWith_24 (by decide) (fun c_3 => ?_) (fun c_3 => ?_)
      · replace hf := ite_f c_3 hf
        refine lv_iinc (v := (v5 + (1 : Int32))) (lv' := [(5, .int (v5 + (1 : Int32))), (0, .ref (ad 367)), (1, .ref (ad (20 * k1))), (2, .int x2), (3, .int x3), (4, .int v4)]) hx hb dX0_rankWith_72 hl (k := 5) rfl rfl (by decide) rfl (fun ls hl => ?_)
        refine lv_goto (tgt := 11) hx hb dX0_rankWith_75 (by decide) ?_
        exact ih (v4) ((v5 + (1 : Int32))) _ _ _ hR hS (lv_sub hl [1, 2, 3, 4, 5, 0] rfl) hf
      · replace hf := ite_t c_3 hf
        refine lv_aload_n hx hb dX0_rankWith_27 rfl (lv_at hl 1 rfl) ?_
        refine lv_iload hx hb dX0_rankWith_28 (lv_at hl 5 rfl) ?_
        refine lv_iload_n hx hb dX0_rankWith_30 rfl (lv_at hl 2 rfl) ?_
        obtain ⟨r_4, hq_5, hf⟩ := bd1_some hf
        refine kVi (id := (20 * k1)) (As := [.int v5, .int x2]) (rest := []) X hR hS (zcX1_fit l D cy ad ba O S k1 v5 x2 hk1 _ hq_5) (cwV 2 X.2.2.2.2.2.1 gX0_rankWith_X1_fit rfl rfl rfl kdX1_fit ⟨(Nat.le_of_ble_eq_true rfl), (Nat.le_of_ble_eq_true rfl)⟩) (te_idc hk1) (teE_circ cy ad O S hk1) rfl rfl rfl hl.1 (Nat.le_of_ble_eq_true rfl) ⟨(Nat.le_of_ble_eq_true rfl), (Nat.le_of_ble_eq_true rfl)⟩ dX0_rankWith_31 (fun H locs hR hS => ?_)
        refine lv_if_eq (tgt := 72) hx hb dX0_rankWith_34 (by decide) (fun c_6 => ?_) (fun c_6 => ?_)
        · replace hf := ite_t c_6 hf
          refine lv_iinc (v := (v5 + (1 : Int32))) (lv' := [(5, .int (v5 + (1 : Int32))), (0, .ref (ad 367)), (1, .ref (ad (20 * k1))), (2, .int x2), (3, .int x3), (4, .int v4)]) hx hb dX0_rankWith_72 hl (k := 5) rfl rfl (by decide) rfl (fun ls hl => ?_)
          refine lv_goto (tgt := 11) hx hb dX0_rankWith_75 (by decide) ?_
          exact ih (v4) ((v5 + (1 : Int32))) _ _ _ hR hS (lv_sub hl [1, 2, 3, 4, 5, 0] rfl) hf
        · replace hf := ite_f c_6 hf
          refine lv_iload_n hx hb dX0_rankWith_37 rfl (lv_at hl 3 rfl) ?_
          refine lv_iconst (v := (1 : Int32)) hx hb dX0_rankWith_38 (by decide) ?_
          refine lv_iload hx hb dX0_rankWith_39 (lv_at hl 5 rfl) ?_
          refine lv_ishl hx hb dX0_rankWith_41 ?_
          refine lv_iconst (v := (-1 : Int32)) hx hb dX0_rankWith_42 (by decide) ?_
          refine lv_ixor hx hb dX0_rankWith_43 ?_
          refine lv_iand hx hb dX0_rankWith_44 ?_
          refine lv_istore (lv' := [(6, .int (x3 &&& (((1 : Int32) <<< (v5 &&& 31)) ^^^ (-1 : Int32)))), (0, .ref (ad 367)), (1, .ref (ad (20 * k1))), (2, .int x2), (3, .int x3), (4, .int v4), (5, .int v5)]) hx hb dX0_rankWith_45 hl (by decide) rfl (fun ls hl => ?_)
          refine lv_iload hx hb dX0_rankWith_47 (lv_at hl 5 rfl) ?_
          refine lv_aload_n hx hb dX0_rankWith_49 rfl (lv_at hl 1 rfl) ?_
          refine rg_0_0 X hR iX0_rankWith_0 wX0_rankWith_9 dX0_rankWith_50 ?_
          refine lv_iload hx hb dX0_rankWith_53 (lv_at hl 0 rfl) ?_
          obtain ⟨h_7, hf⟩ := chk_some hf
          refine ra_int X hR (r := 368) rfl h_7 dX0_rankWith_55 ?_
          refine lv_ldc (v := (1000000 : Int32)) hx hb hown (X.2.2.2.2.2.1 _ wX0_rankWith_29) dX0_rankWith_56 ?_
          refine lv_iadd hx hb dX0_rankWith_58 ?_
          refine lv_aload_n hx hb dX0_rankWith_59 rfl (lv_at hl 2 rfl) ?_
          refine lv_iload hx hb dX0_rankWith_60 (lv_at hl 6 rfl) ?_
          refine lv_iload_n hx hb dX0_rankWith_62 rfl (lv_at hl 3 rfl) ?_
          obtain ⟨r_8, hq_9, hf⟩ := bd1_some hf
          refine kVi (id := (20 * k1)) (As := [.int v5, .int x2]) (rest := [.int ((S 368 (x3 &&& (((1 : Int32) <<< (v5 &&& 31)) ^^^ (-1 : Int32))).toNatClampNeg) + (1000000 : Int32)), .int v4]) X hR hS (zcX1_value l D cy ad ba O S k1 v5 x2 hk1 _ hq_9) (cwV 2 X.2.2.2.2.2.1 gX0_rankWith_X1_value rfl rfl rfl kdX1_value ⟨(Nat.le_of_ble_eq_true rfl), (Nat.le_of_ble_eq_true rfl)⟩) (te_idc hk1) (teE_circ cy ad O S hk1) rfl rfl rfl hl.1 (Nat.le_of_ble_eq_true rfl) ⟨(Nat.le_of_ble_eq_true rfl), (Nat.le_of_ble_eq_true rfl)⟩ dX0_rankWith_63 (fun H locs hR hS => ?_)
          refine lv_iadd hx hb dX0_rankWith_66 ?_
          refine va_mmax hx hb (X.2.2.1.trans hl.1.symm) hown (X.2.2.2.2.2.1 _ wX0_rankWith_34) (X.2.2.2.2.2.1 _ wX0_rankWith_maxs) (X.2.2.2.2.2.1 _ wX0_rankWith_mi) (X.2.2.2.2.2.1 _ wX0_rankWith_maxc) (Nat.le_of_ble_eq_true rfl) (Nat.le_of_ble_eq_true rfl) (Nat.zero_le _) (Nat.zero_le _) dX0_rankWith_67 ?_
          refine lv_istore (lv' := [(4, .int (if v4 < (((S 368 (x3 &&& (((1 : Int32) <<< (v5 &&& 31)) ^^^ (-1 : Int32))).toNatClampNeg) + (1000000 : Int32)) + r_8) then (((S 368 (x3 &&& (((1 : Int32) <<< (v5 &&& 31)) ^^^ (-1 : Int32))).toNatClampNeg) + (1000000 : Int32)) + r_8) else v4)), (6, .int (x3 &&& (((1 : Int32) <<< (v5 &&& 31)) ^^^ (-1 : Int32)))), (0, .ref (ad 367)), (1, .ref (ad (20 * k1))), (2, .int x2), (3, .int x3), (5, .int v5)]) hx hb dX0_rankWith_70 hl (by decide) rfl (fun ls hl => ?_)
          refine lv_iinc (v := (v5 + (1 : Int32))) (lv' := [(5, .int (v5 + (1 : Int32))), (4, .int (if v4 < (((S 368 (x3 &&& (((1 : Int32) <<< (v5 &&& 31)) ^^^ (-1 : Int32))).toNatClampNeg) + (1000000 : Int32)) + r_8) then (((S 368 (x3 &&& (((1 : Int32) <<< (v5 &&& 31)) ^^^ (-1 : Int32))).toNatClampNeg) + (1000000 : Int32)) + r_8) else v4)), (6, .int (x3 &&& (((1 : Int32) <<< (v5 &&& 31)) ^^^ (-1 : Int32)))), (0, .ref (ad 367)), (1, .ref (ad (20 * k1))), (2, .int x2), (3, .int x3)]) hx hb dX0_rankWith_72 hl (k := 6) rfl rfl (by decide) rfl (fun ls hl => ?_)
          refine lv_goto (tgt := 11) hx hb dX0_rankWith_75 (by decide) ?_
          exact ih ((if v4 < (((S 368 (x3 &&& (((1 : Int32) <<< (v5 &&& 31)) ^^^ (-1 : Int32))).toNatClampNeg) + (1000000 : Int32)) + r_8) then (((S 368 (x3 &&& (((1 : Int32) <<< (v5 &&& 31)) ^^^ (-1 : Int32))).toNatClampNeg) + (1000000 : Int32)) + r_8) else v4)) ((v5 + (1 : Int32))) _ _ _ hR hS (lv_sub hl [3, 4, 5, 6, 1, 0] rfl) hf
set_option maxRecDepth 100000 in
set_option maxHeartbeats 4000000 in
theorem bX0_rankWith_0 {p : Program} {l : Launch} {e : Env} {s : State} {m : MethodId} {args : Array Value} {below : List Frame} {meth : Method} {c : Code} {D : va_G} {cy : Nat → ClassId} {ad : Nat → Nat} {ba : Nat → Prop} {O : Int64} {S : teS}  {k1 : Nat} {x2 : Int32} {x3 : Int32} {res : Int32} (hk1 : k1 < 18) (X : teC wsX0_rankWith RX0 cX0_rankWith 7 (some .int) D cy ba p s m args meth c) (H : Heap) (locs : List Loc) (ls : Array Slot) (hR : teR D cy ad ba O S H) (hS : va_S (teA ba) s.heap H locs) (hl : lv_has ls 7 [(0, .ref (ad 367)), (1, .ref (ad (20 * k1))), (2, .int x2), (3, .int x3)]) (hf : fX0_rankWith k1 x2 x3 S = some res) : W p l e (headSpec wsX0_rankWith rmX0_rankWith).room s m args below meth c H locs 0 0 (MQ below (va_Qi (fun a (u : teS) => a = res ∧ u = S) (fun u t => teR D cy ad ba O u t.heap) (teA ba)) args s 0 0 (teA ba)) (F0 m 0 ls []) := by
  have hx := X.1
  have hb := X.2.1
  have hown := X.2.2.2.2.1
  unfold fX0_rankWith at hf
  refine lv_aload_n hx hb dX0_rankWith_0 rfl (lv_at hl 0 rfl) ?_
  refine rg_0_0 X hR iX0_rankWith_0 wX0_rankWith_9 dX0_rankWith_1 ?_
  refine lv_iload_n hx hb dX0_rankWith_4 rfl (lv_at hl 3 rfl) ?_
  obtain ⟨h_1, hf⟩ := chk_some hf
  refine ra_int X hR (r := 368) rfl h_1 dX0_rankWith_5 ?_
  refine lv_istore (lv' := [(4, .int (S 368 x3.toNatClampNeg)), (0, .ref (ad 367)), (1, .ref (ad (20 * k1))), (2, .int x2), (3, .int x3)]) hx hb dX0_rankWith_6 hl (by decide) rfl (fun ls hl => ?_)
  refine lv_iconst (v := (0 : Int32)) hx hb dX0_rankWith_8 (by decide) ?_
  refine lv_istore (lv' := [(5, .int (0 : Int32)), (4, .int (S 368 x3.toNatClampNeg)), (0, .ref (ad 367)), (1, .ref (ad (20 * k1))), (2, .int x2), (3, .int x3)]) hx hb dX0_rankWith_9 hl (by decide) rfl (fun ls hl => ?_)
  exact bX0_rankWith_11 (S := S) (k1 := k1) (x2 := x2) (x3 := x3) hk1 X 2000 ((S 368 x3.toNatClampNeg)) ((0 : Int32)) _ _ _ hR hS (lv_sub hl [2, 3, 4, 5, 1, 0] rfl) hf
theorem zcX0_rankWith (l : Launch) (D : va_G) (cy : Nat → ClassId) (ad : Nat → Nat) (ba : Nat → Prop) (O : Int64) (S : teS) (k1 : Nat) (x2 : Int32) (x3 : Int32) (hk1 : k1 < 18) (res : Int32) (hf : fX0_rankWith k1 x2 x3 S = some res) : cI l yX0_rankWith wsX0_rankWith rmX0_rankWith D cy ad ba O S [.ref (ad 367), .ref (ad (20 * k1)), .int x2, .int x3] res S :=
  te_of (by decide +kernel) rfl (Nat.le_of_ble_eq_true rfl) (fun p e s m below meth c ls X hR hS hl => bX0_rankWith_0 (S := S) (k1 := k1) (x2 := x2) (x3 := x3) hk1 X _ _ _ hR hS hl hf)
abbrev rmX0_fill : Room := { frames := 4, cells := 0, slots := 0, locals := 94 }
theorem kdX0_fill : yX0_fill.cls = RX0 ∧ yX0_fill.cls ≠ "java/lang/invoke/MethodHandle" ∧ yX0_fill.cls ≠ "java/lang/invoke/VarHandle" ∧ (parseMethodDescriptor yX0_fill.desc).map (fun d => d.parameters.length) = some 1 := by decide +kernel
theorem wX0_fill_9 : Cond.fieldLink RX0 9 "TandemExchange$BestMatching" "ranks" "[I" ∈ wsX0_fill := by decide +kernel
theorem iX0_fill_0 : ∀ w ∈ wsX00, w ∈ wsX0_fill := by decide +kernel
theorem wX0_fill_15 : Cond.fieldLink RX0 15 "TandemExchange$Circle" "size" "I" ∈ wsX0_fill := by decide +kernel
theorem iX0_fill_1 : ∀ w ∈ wsX10, w ∈ wsX0_fill := by decide +kernel
set_option maxRecDepth 100000 in
set_option maxHeartbeats 4000000 in
theorem bX0_fill_24 {p : Program} {l : Launch} {e : Env} {s : State} {m : MethodId} {args : Array Value} {below : List Frame} {meth : Method} {c : Code} {D : va_G} {cy : Nat → ClassId} {ad : Nat → Nat} {ba : Nat → Prop} {O : Int64} {S : teS}  {k1 : Nat} {res : teS} (hk1 : k1 < 18) (X : teC wsX0_fill RX0 cX0_fill 5 none D cy ba p s m args meth c) {q9 : teS → Int32 → Option teS} (hq9 : ∀ (S1 : teS) (v2 : Int32) (H : Heap) (locs : List Loc) (ls : Array Slot), teR D cy ad ba O S1 H → va_S (teA ba) s.heap H locs → lv_has ls 5 [(0, .ref (ad 367)), (1, .ref (ad (20 * k1))), (2, .int v2)] → q9 S1 v2 = some res → W p l e (headSpec wsX0_fill rmX0_fill).room s m args below meth c H locs 0 0 (MQ below (va_Qv (fun (u : teS) => u = res) (fun u t => teR D cy ad ba O u t.heap) (teA ba)) args s 0 0 (teA ba)) (F0 m 9 ls [])) : ∀ (n : Nat), ∀ (S1 : teS) (v2 : Int32) (v3 : Int32) (v4 : Int32) (H : Heap) (locs : List Loc) (ls : Array Slot), teR D cy ad ba O S1 H → va_S (teA ba) s.heap H locs → lv_has ls 5 [(0, .ref (ad 367)), (1, .ref (ad (20 * k1))), (2, .int v2), (3, .int v3), (4, .int v4)] → fX0_fill_24 k1 q9 n S1 v2 v3 v4 = some res → W p l e (headSpec wsX0_fill rmX0_fill).room s m args below meth c H locs 0 0 (MQ below (va_Qv (fun (u : teS) => u = res) (fun u t => teR D cy ad ba O u t.heap) (teA ba)) args s 0 0 (teA ba)) (F0 m 24 ls []) := by
  have hx := X.1
  have hb := X.2.1
  have hown := X.2.2.2.2.1
  intro n
  induction n with
  | zero =>
    intro S1 v2 v3 v4 H locs ls hR hS hl hf
    exact nomatch hf
  | succ n ih =>
    intro S1 v2 v3 v4 H locs ls hR hS hl hf
    unfold fX0_fill_24 at hf
    refine lv_iload hx hb dX0_fill_24 (lv_at hl 4 rfl) ?_
    refine lv_iload_n hx hb dX0_fill_26 rfl (lv_at hl 3 rfl) ?_
    refine lv_icmp_ge (tgt := 53) hx hb dX0_fill_27 (by decide) (fun c_3 => ?_) (fun c_3 => ?_)
    · replace hf := ite_t c_3 hf
      refine lv_iinc (v := (v2 + (1 : Int32))) (lv' := [(2, .int (v2 + (1 : Int32))), (0, .ref (ad 367)), (1, .ref (ad (20 * k1))), (3, .int v3), (4, .int v4)]) hx hb dX0_fill_53 hl (k := 2) rfl rfl (by decide) rfl (fun ls hl => ?_)
      refine lv_goto (tgt := 9) hx hb dX0_fill_56 (by decide) ?_
      exact hq9 S1 ((v2 + (1 : Int32))) _ _ _ hR hS (lv_sub hl [1, 2, 0] rfl) hf
    · replace hf := ite_f c_3 hf
      refine lv_aload_n hx hb dX0_fill_30 rfl (lv_at hl 0 rfl) ?_
      refine rg_0_0 X hR iX0_fill_0 wX0_fill_9 dX0_fill_31 ?_
      refine lv_iload_n hx hb dX0_fill_34 rfl (lv_at hl 3 rfl) ?_
      refine lv_iload hx hb dX0_fill_35 (lv_at hl 4 rfl) ?_
      refine lv_ior hx hb dX0_fill_37 ?_
      refine lv_aload_n hx hb dX0_fill_38 rfl (lv_at hl 0 rfl) ?_
      refine lv_aload_n hx hb dX0_fill_39 rfl (lv_at hl 1 rfl) ?_
      refine lv_iload_n hx hb dX0_fill_40 rfl (lv_at hl 2 rfl) ?_
      refine lv_iload hx hb dX0_fill_41 (lv_at hl 4 rfl) ?_
      obtain ⟨r_4, hq_5, hf⟩ := bd1_some hf
      refine kVi (id := 367) (As := [.ref (ad (20 * k1)), .int v2, .int v4]) (rest := [.int (v3 ||| v4), .ref (ad 368)]) X hR hS (zcX0_rankWith l D cy ad ba O S1 k1 v2 v4 hk1 _ hq_5) (cwV 3 X.2.2.2.2.2.1 gX0_fill_X0_rankWith rfl rfl rfl kdX0_rankWith ⟨(Nat.le_of_ble_eq_true rfl), (Nat.le_of_ble_eq_true rfl)⟩) (by decide) rfl rfl rfl rfl hl.1 (Nat.le_of_ble_eq_true rfl) ⟨(Nat.le_of_ble_eq_true rfl), (Nat.le_of_ble_eq_true rfl)⟩ dX0_fill_43 (fun H locs hR hS => ?_)
      obtain ⟨h_6, hf⟩ := chk_some hf
      refine rs_int X hR hS (r := 368) rfl h_6 dX0_fill_46 (fun H locs hR hS => ?_)
      generalize teu S1 368 (v3 ||| v4).toNatClampNeg r_4 = S2 at hf hR
      replace hf := lt1_e hf
      refine lv_iinc (v := (v4 + (1 : Int32))) (lv' := [(4, .int (v4 + (1 : Int32))), (0, .ref (ad 367)), (1, .ref (ad (20 * k1))), (2, .int v2), (3, .int v3)]) hx hb dX0_fill_47 hl (k := 4) rfl rfl (by decide) rfl (fun ls hl => ?_)
      refine lv_goto (tgt := 24) hx hb dX0_fill_50 (by decide) ?_
      exact ih S2 (v2) (v3) ((v4 + (1 : Int32))) _ _ _ hR hS (lv_sub hl [1, 2, 3, 4, 0] rfl) hf
set_option maxRecDepth 100000 in
set_option maxHeartbeats 4000000 in
theorem bX0_fill_9 {p : Program} {l : Launch} {e : Env} {s : State} {m : MethodId} {args : Array Value} {below : List Frame} {meth : Method} {c : Code} {D : va_G} {cy : Nat → ClassId} {ad : Nat → Nat} {ba : Nat → Prop} {O : Int64} {S : teS}  {k1 : Nat} {res : teS} (hk1 : k1 < 18) (X : teC wsX0_fill RX0 cX0_fill 5 none D cy ba p s m args meth c) : ∀ (n : Nat), ∀ (S1 : teS) (v2 : Int32) (H : Heap) (locs : List Loc) (ls : Array Slot), teR D cy ad ba O S1 H → va_S (teA ba) s.heap H locs → lv_has ls 5 [(0, .ref (ad 367)), (1, .ref (ad (20 * k1))), (2, .int v2)] → fX0_fill_9 k1 n S1 v2 = some res → W p l e (headSpec wsX0_fill rmX0_fill).room s m args below meth c H locs 0 0 (MQ below (va_Qv (fun (u : teS) => u = res) (fun u t => teR D cy ad ba O u t.heap) (teA ba)) args s 0 0 (teA ba)) (F0 m 9 ls []) := by
  have hx := X.1
  have hb := X.2.1
  have hown := X.2.2.2.2.1
  intro n
  induction n with
  | zero =>
    intro S1 v2 H locs ls hR hS hl hf
    exact nomatch hf
  | succ n ih =>
    intro S1 v2 H locs ls hR hS hl hf
    unfold fX0_fill_9 at hf
    refine lv_iload_n hx hb dX0_fill_9 rfl (lv_at hl 2 rfl) ?_
    refine lv_aload_n hx hb dX0_fill_10 rfl (lv_at hl 1 rfl) ?_
    refine rg_1_1 X hR hk1 iX0_fill_1 wX0_fill_15 dX0_fill_11 ?_
    refine lv_icmp_ge (tgt := 59) hx hb dX0_fill_14 (by decide) (fun c_2 => ?_) (fun c_2 => ?_)
    · replace hf := ite_t c_2 hf
      exact eV X hR hS (Option.some.inj hf) dX0_fill_59
    · replace hf := ite_f c_2 hf
      refine lv_iconst (v := (1 : Int32)) hx hb dX0_fill_17 (by decide) ?_
      refine lv_iload_n hx hb dX0_fill_18 rfl (lv_at hl 2 rfl) ?_
      refine lv_ishl hx hb dX0_fill_19 ?_
      refine lv_istore_n (lv' := [(3, .int ((1 : Int32) <<< (v2 &&& 31))), (0, .ref (ad 367)), (1, .ref (ad (20 * k1))), (2, .int v2)]) hx hb dX0_fill_20 rfl hl (by decide) rfl (fun ls hl => ?_)
      refine lv_iconst (v := (0 : Int32)) hx hb dX0_fill_21 (by decide) ?_
      refine lv_istore (lv' := [(4, .int (0 : Int32)), (3, .int ((1 : Int32) <<< (v2 &&& 31))), (0, .ref (ad 367)), (1, .ref (ad (20 * k1))), (2, .int v2)]) hx hb dX0_fill_22 hl (by decide) rfl (fun ls hl => ?_)
      exact bX0_fill_24 (S := S) (k1 := k1) hk1 X ih 2000 S1 (v2) (((1 : Int32) <<< (v2 &&& 31))) ((0 : Int32)) _ _ _ hR hS (lv_sub hl [2, 3, 4, 1, 0] rfl) hf
set_option maxRecDepth 100000 in
set_option maxHeartbeats 4000000 in
theorem bX0_fill_0 {p : Program} {l : Launch} {e : Env} {s : State} {m : MethodId} {args : Array Value} {below : List Frame} {meth : Method} {c : Code} {D : va_G} {cy : Nat → ClassId} {ad : Nat → Nat} {ba : Nat → Prop} {O : Int64} {S : teS}  {k1 : Nat} {res : teS} (hk1 : k1 < 18) (X : teC wsX0_fill RX0 cX0_fill 5 none D cy ba p s m args meth c) (H : Heap) (locs : List Loc) (ls : Array Slot) (hR : teR D cy ad ba O S H) (hS : va_S (teA ba) s.heap H locs) (hl : lv_has ls 5 [(0, .ref (ad 367)), (1, .ref (ad (20 * k1)))]) (hf : fX0_fill k1 S = some res) : W p l e (headSpec wsX0_fill rmX0_fill).room s m args below meth c H locs 0 0 (MQ below (va_Qv (fun (u : teS) => u = res) (fun u t => teR D cy ad ba O u t.heap) (teA ba)) args s 0 0 (teA ba)) (F0 m 0 ls []) := by
  have hx := X.1
  have hb := X.2.1
  have hown := X.2.2.2.2.1
  unfold fX0_fill at hf
  refine lv_aload_n hx hb dX0_fill_0 rfl (lv_at hl 0 rfl) ?_
  refine rg_0_0 X hR iX0_fill_0 wX0_fill_9 dX0_fill_1 ?_
  refine lv_iconst (v := (0 : Int32)) hx hb dX0_fill_4 (by decide) ?_
  refine lv_iconst (v := (0 : Int32)) hx hb dX0_fill_5 (by decide) ?_
  obtain ⟨h_1, hf⟩ := chk_some hf
  refine rs_int X hR hS (r := 368) rfl h_1 dX0_fill_6 (fun H locs hR hS => ?_)
  generalize teu S 368 (0 : Int32).toNatClampNeg (0 : Int32) = S1 at hf hR
  replace hf := lt1_e hf
  refine lv_iconst (v := (0 : Int32)) hx hb dX0_fill_7 (by decide) ?_
  refine lv_istore_n (lv' := [(2, .int (0 : Int32)), (0, .ref (ad 367)), (1, .ref (ad (20 * k1)))]) hx hb dX0_fill_8 rfl hl (by decide) rfl (fun ls hl => ?_)
  exact bX0_fill_9 (S := S) (k1 := k1) hk1 X 2000 S1 ((0 : Int32)) _ _ _ hR hS (lv_sub hl [1, 2, 0] rfl) hf
theorem zcX0_fill (l : Launch) (D : va_G) (cy : Nat → ClassId) (ad : Nat → Nat) (ba : Nat → Prop) (O : Int64) (S : teS) (k1 : Nat) (hk1 : k1 < 18) (res : teS) (hf : fX0_fill k1 S = some res) : cV l yX0_fill wsX0_fill rmX0_fill D cy ad ba O S [.ref (ad 367), .ref (ad (20 * k1))] res :=
  te_of (by decide +kernel) rfl (Nat.le_of_ble_eq_true rfl) (fun p e s m below meth c ls X hR hS hl => bX0_fill_0 (S := S) (k1 := k1) hk1 X _ _ _ hR hS hl hf)
abbrev rmX0_rankOfAll : Room := { frames := 0, cells := 0, slots := 0, locals := 0 }
theorem kdX0_rankOfAll : yX0_rankOfAll.cls = RX0 ∧ yX0_rankOfAll.cls ≠ "java/lang/invoke/MethodHandle" ∧ yX0_rankOfAll.cls ≠ "java/lang/invoke/VarHandle" ∧ (parseMethodDescriptor yX0_rankOfAll.desc).map (fun d => d.parameters.length) = some 1 := by decide +kernel
theorem wX0_rankOfAll_9 : Cond.fieldLink RX0 9 "TandemExchange$BestMatching" "ranks" "[I" ∈ wsX0_rankOfAll := by decide +kernel
theorem iX0_rankOfAll_0 : ∀ w ∈ wsX00, w ∈ wsX0_rankOfAll := fun _ h => List.mem_cons_of_mem _ (List.mem_append_left _ (List.mem_append_right _ h))
theorem wX0_rankOfAll_15 : Cond.fieldLink RX0 15 "TandemExchange$Circle" "size" "I" ∈ wsX0_rankOfAll := by decide +kernel
theorem iX0_rankOfAll_1 : ∀ w ∈ wsX10, w ∈ wsX0_rankOfAll := fun _ h => List.mem_cons_of_mem _ (List.mem_append_right _ h)
set_option maxRecDepth 100000 in
set_option maxHeartbeats 4000000 in
theorem bX0_rankOfAll_0 {p : Program} {l : Launch} {e : Env} {s : State} {m : MethodId} {args : Array Value} {below : List Frame} {meth : Method} {c : Code} {D : va_G} {cy : Nat → ClassId} {ad : Nat → Nat} {ba : Nat → Prop} {O : Int64} {S : teS}  {k1 : Nat} {res : Int32} (hk1 : k1 < 18) (X : teC wsX0_rankOfAll RX0 cX0_rankOfAll 2 (some .int) D cy ba p s m args meth c) (H : Heap) (locs : List Loc) (ls : Array Slot) (hR : teR D cy ad ba O S H) (hS : va_S (teA ba) s.heap H locs) (hl : lv_has ls 2 [(0, .ref (ad 367)), (1, .ref (ad (20 * k1)))]) (hf : fX0_rankOfAll k1 S = some res) : W p l e (headSpec wsX0_rankOfAll rmX0_rankOfAll).room s m args below meth c H locs 0 0 (MQ below (va_Qi (fun a (u : teS) => a = res ∧ u = S) (fun u t => teR D cy ad ba O u t.heap) (teA ba)) args s 0 0 (teA ba)) (F0 m 0 ls []) := by
  have hx := X.1
  have hb := X.2.1
  have hown := X.2.2.2.2.1
  unfold fX0_rankOfAll at hf
  refine lv_aload_n hx hb dX0_rankOfAll_0 rfl (lv_at hl 0 rfl) ?_
  refine rg_0_0 X hR iX0_rankOfAll_0 wX0_rankOfAll_9 dX0_rankOfAll_1 ?_
  refine lv_iconst (v := (1 : Int32)) hx hb dX0_rankOfAll_4 (by decide) ?_
  refine lv_aload_n hx hb dX0_rankOfAll_5 rfl (lv_at hl 1 rfl) ?_
  refine rg_1_1 X hR hk1 iX0_rankOfAll_1 wX0_rankOfAll_15 dX0_rankOfAll_6 ?_
  refine lv_ishl hx hb dX0_rankOfAll_9 ?_
  refine lv_iconst (v := (1 : Int32)) hx hb dX0_rankOfAll_10 (by decide) ?_
  refine lv_isub hx hb dX0_rankOfAll_11 ?_
  obtain ⟨h_1, hf⟩ := chk_some hf
  refine ra_int X hR (r := 368) rfl h_1 dX0_rankOfAll_12 ?_
  exact eI X hR hS (Option.some.inj hf) rfl dX0_rankOfAll_13
theorem zcX0_rankOfAll (l : Launch) (D : va_G) (cy : Nat → ClassId) (ad : Nat → Nat) (ba : Nat → Prop) (O : Int64) (S : teS) (k1 : Nat) (hk1 : k1 < 18) (res : Int32) (hf : fX0_rankOfAll k1 S = some res) : cI l yX0_rankOfAll wsX0_rankOfAll rmX0_rankOfAll D cy ad ba O S [.ref (ad 367), .ref (ad (20 * k1))] res S :=
  te_of (by decide +kernel) rfl (Nat.le_of_ble_eq_true rfl) (fun p e s m below meth c ls X hR hS hl => bX0_rankOfAll_0 (S := S) (k1 := k1) hk1 X _ _ _ hR hS hl hf)
abbrev rmX0_rankWithout : Room := { frames := 0, cells := 0, slots := 0, locals := 0 }
theorem kdX0_rankWithout : yX0_rankWithout.cls = RX0 ∧ yX0_rankWithout.cls ≠ "java/lang/invoke/MethodHandle" ∧ yX0_rankWithout.cls ≠ "java/lang/invoke/VarHandle" ∧ (parseMethodDescriptor yX0_rankWithout.desc).map (fun d => d.parameters.length) = some 2 := by decide +kernel
theorem wX0_rankWithout_9 : Cond.fieldLink RX0 9 "TandemExchange$BestMatching" "ranks" "[I" ∈ wsX0_rankWithout := by decide +kernel
theorem iX0_rankWithout_0 : ∀ w ∈ wsX00, w ∈ wsX0_rankWithout := fun _ h => List.mem_cons_of_mem _ (List.mem_append_left _ (List.mem_append_right _ h))
theorem wX0_rankWithout_15 : Cond.fieldLink RX0 15 "TandemExchange$Circle" "size" "I" ∈ wsX0_rankWithout := by decide +kernel
theorem iX0_rankWithout_1 : ∀ w ∈ wsX10, w ∈ wsX0_rankWithout := fun _ h => List.mem_cons_of_mem _ (List.mem_append_right _ h)
set_option maxRecDepth 100000 in
set_option maxHeartbeats 4000000 in
theorem bX0_rankWithout_0 {p : Program} {l : Launch} {e : Env} {s : State} {m : MethodId} {args : Array Value} {below : List Frame} {meth : Method} {c : Code} {D : va_G} {cy : Nat → ClassId} {ad : Nat → Nat} {ba : Nat → Prop} {O : Int64} {S : teS}  {k1 : Nat} {x2 : Int32} {res : Int32} (hk1 : k1 < 18) (X : teC wsX0_rankWithout RX0 cX0_rankWithout 3 (some .int) D cy ba p s m args meth c) (H : Heap) (locs : List Loc) (ls : Array Slot) (hR : teR D cy ad ba O S H) (hS : va_S (teA ba) s.heap H locs) (hl : lv_has ls 3 [(0, .ref (ad 367)), (1, .ref (ad (20 * k1))), (2, .int x2)]) (hf : fX0_rankWithout k1 x2 S = some res) : W p l e (headSpec wsX0_rankWithout rmX0_rankWithout).room s m args below meth c H locs 0 0 (MQ below (va_Qi (fun a (u : teS) => a = res ∧ u = S) (fun u t => teR D cy ad ba O u t.heap) (teA ba)) args s 0 0 (teA ba)) (F0 m 0 ls []) := by
  have hx := X.1
  have hb := X.2.1
  have hown := X.2.2.2.2.1
  unfold fX0_rankWithout at hf
  refine lv_aload_n hx hb dX0_rankWithout_0 rfl (lv_at hl 0 rfl) ?_
  refine rg_0_0 X hR iX0_rankWithout_0 wX0_rankWithout_9 dX0_rankWithout_1 ?_
  refine lv_iconst (v := (1 : Int32)) hx hb dX0_rankWithout_4 (by decide) ?_
  refine lv_aload_n hx hb dX0_rankWithout_5 rfl (lv_at hl 1 rfl) ?_
  refine rg_1_1 X hR hk1 iX0_rankWithout_1 wX0_rankWithout_15 dX0_rankWithout_6 ?_
  refine lv_ishl hx hb dX0_rankWithout_9 ?_
  refine lv_iconst (v := (1 : Int32)) hx hb dX0_rankWithout_10 (by decide) ?_
  refine lv_isub hx hb dX0_rankWithout_11 ?_
  refine lv_iconst (v := (1 : Int32)) hx hb dX0_rankWithout_12 (by decide) ?_
  refine lv_iload_n hx hb dX0_rankWithout_13 rfl (lv_at hl 2 rfl) ?_
  refine lv_ishl hx hb dX0_rankWithout_14 ?_
  refine lv_iconst (v := (-1 : Int32)) hx hb dX0_rankWithout_15 (by decide) ?_
  refine lv_ixor hx hb dX0_rankWithout_16 ?_
  refine lv_iand hx hb dX0_rankWithout_17 ?_
  obtain ⟨h_1, hf⟩ := chk_some hf
  refine ra_int X hR (r := 368) rfl h_1 dX0_rankWithout_18 ?_
  exact eI X hR hS (Option.some.inj hf) rfl dX0_rankWithout_19
theorem zcX0_rankWithout (l : Launch) (D : va_G) (cy : Nat → ClassId) (ad : Nat → Nat) (ba : Nat → Prop) (O : Int64) (S : teS) (k1 : Nat) (x2 : Int32) (hk1 : k1 < 18) (res : Int32) (hf : fX0_rankWithout k1 x2 S = some res) : cI l yX0_rankWithout wsX0_rankWithout rmX0_rankWithout D cy ad ba O S [.ref (ad 367), .ref (ad (20 * k1)), .int x2] res S :=
  te_of (by decide +kernel) rfl (Nat.le_of_ble_eq_true rfl) (fun p e s m below meth c ls X hR hS hl => bX0_rankWithout_0 (S := S) (k1 := k1) (x2 := x2) hk1 X _ _ _ hR hS hl hf)
abbrev rmX0_pairsOf : Room := { frames := 1, cells := 0, slots := 0, locals := 22 }
theorem kdX0_pairsOf : yX0_pairsOf.cls = RX0 ∧ yX0_pairsOf.cls ≠ "java/lang/invoke/MethodHandle" ∧ yX0_pairsOf.cls ≠ "java/lang/invoke/VarHandle" ∧ (parseMethodDescriptor yX0_pairsOf.desc).map (fun d => d.parameters.length) = some 1 := by decide +kernel
theorem wX0_pairsOf_39 : Cond.constant RX0 39 (500000) ∈ wsX0_pairsOf := by decide +kernel
theorem wX0_pairsOf_29 : Cond.constant RX0 29 (1000000) ∈ wsX0_pairsOf := by decide +kernel
set_option maxRecDepth 100000 in
set_option maxHeartbeats 4000000 in
theorem bX0_pairsOf_0 {p : Program} {l : Launch} {e : Env} {s : State} {m : MethodId} {args : Array Value} {below : List Frame} {meth : Method} {c : Code} {D : va_G} {cy : Nat → ClassId} {ad : Nat → Nat} {ba : Nat → Prop} {O : Int64} {S : teS}  {x1 : Int32} {res : Int32} (X : teC wsX0_pairsOf RX0 cX0_pairsOf 2 (some .int) D cy ba p s m args meth c) (H : Heap) (locs : List Loc) (ls : Array Slot) (hR : teR D cy ad ba O S H) (hS : va_S (teA ba) s.heap H locs) (hl : lv_has ls 2 [(0, .ref (ad 367)), (1, .int x1)]) (hf : fX0_pairsOf x1 S = some res) : W p l e (headSpec wsX0_pairsOf rmX0_pairsOf).room s m args below meth c H locs 0 0 (MQ below (va_Qi (fun a (u : teS) => a = res ∧ u = S) (fun u t => teR D cy ad ba O u t.heap) (teA ba)) args s 0 0 (teA ba)) (F0 m 0 ls []) := by
  have hx := X.1
  have hb := X.2.1
  have hown := X.2.2.2.2.1
  unfold fX0_pairsOf at hf
  refine lv_iload_n hx hb dX0_pairsOf_0 rfl (lv_at hl 1 rfl) ?_
  refine lv_ldc (v := (500000 : Int32)) hx hb hown (X.2.2.2.2.2.1 _ wX0_pairsOf_39) dX0_pairsOf_1 ?_
  refine lv_iadd hx hb dX0_pairsOf_3 ?_
  refine lv_ldc (v := (1000000 : Int32)) hx hb hown (X.2.2.2.2.2.1 _ wX0_pairsOf_29) dX0_pairsOf_4 ?_
  obtain ⟨r_1, hq_2, hf⟩ := bd1_some hf
  refine kSi (As := [.int (x1 + (500000 : Int32)), .int (1000000 : Int32)]) (rest := []) X hR hS (zcJ9_floorDiv_7cf53 l D cy ad ba O S (x1 + (500000 : Int32)) (1000000 : Int32) _ hq_2) (va_cwS 2 X.2.2.2.2.2.1 gX0_pairsOf_J9_floorDiv_7cf53 rfl rfl rfl kdJ9_floorDiv_7cf53.2 ⟨(Nat.le_of_ble_eq_true rfl), (Nat.le_of_ble_eq_true rfl)⟩)  rfl rfl hl.1 (Nat.le_of_ble_eq_true rfl) ⟨(Nat.le_of_ble_eq_true rfl), (Nat.le_of_ble_eq_true rfl)⟩ dX0_pairsOf_6 (fun H locs hR hS => ?_)
  exact eI X hR hS (Option.some.inj hf) rfl dX0_pairsOf_9
theorem zcX0_pairsOf (l : Launch) (D : va_G) (cy : Nat → ClassId) (ad : Nat → Nat) (ba : Nat → Prop) (O : Int64) (S : teS) (x1 : Int32) (res : Int32) (hf : fX0_pairsOf x1 S = some res) : cI l yX0_pairsOf wsX0_pairsOf rmX0_pairsOf D cy ad ba O S [.ref (ad 367), .int x1] res S :=
  te_of (by decide +kernel) rfl (Nat.le_of_ble_eq_true rfl) (fun p e s m below meth c ls X hR hS hl => bX0_pairsOf_0 (S := S) (x1 := x1) X _ _ _ hR hS hl hf)
abbrev rmX0_sumOf : Room := { frames := 2, cells := 0, slots := 0, locals := 43 }
theorem kdX0_sumOf : yX0_sumOf.cls = RX0 ∧ yX0_sumOf.cls ≠ "java/lang/invoke/MethodHandle" ∧ yX0_sumOf.cls ≠ "java/lang/invoke/VarHandle" ∧ (parseMethodDescriptor yX0_sumOf.desc).map (fun d => d.parameters.length) = some 1 := by decide +kernel
theorem wX0_sumOf_29 : Cond.constant RX0 29 (1000000) ∈ wsX0_sumOf := by decide +kernel
set_option maxRecDepth 100000 in
set_option maxHeartbeats 4000000 in
theorem bX0_sumOf_0 {p : Program} {l : Launch} {e : Env} {s : State} {m : MethodId} {args : Array Value} {below : List Frame} {meth : Method} {c : Code} {D : va_G} {cy : Nat → ClassId} {ad : Nat → Nat} {ba : Nat → Prop} {O : Int64} {S : teS}  {x1 : Int32} {res : Int32} (X : teC wsX0_sumOf RX0 cX0_sumOf 2 (some .int) D cy ba p s m args meth c) (H : Heap) (locs : List Loc) (ls : Array Slot) (hR : teR D cy ad ba O S H) (hS : va_S (teA ba) s.heap H locs) (hl : lv_has ls 2 [(0, .ref (ad 367)), (1, .int x1)]) (hf : fX0_sumOf x1 S = some res) : W p l e (headSpec wsX0_sumOf rmX0_sumOf).room s m args below meth c H locs 0 0 (MQ below (va_Qi (fun a (u : teS) => a = res ∧ u = S) (fun u t => teR D cy ad ba O u t.heap) (teA ba)) args s 0 0 (teA ba)) (F0 m 0 ls []) := by
  have hx := X.1
  have hb := X.2.1
  have hown := X.2.2.2.2.1
  unfold fX0_sumOf at hf
  refine lv_iload_n hx hb dX0_sumOf_0 rfl (lv_at hl 1 rfl) ?_
  refine lv_aload_n hx hb dX0_sumOf_1 rfl (lv_at hl 0 rfl) ?_
  refine lv_iload_n hx hb dX0_sumOf_2 rfl (lv_at hl 1 rfl) ?_
  obtain ⟨r_1, hq_2, hf⟩ := bd1_some hf
  refine kVi (id := 367) (As := [.int x1]) (rest := [.int x1]) X hR hS (zcX0_pairsOf l D cy ad ba O S x1 _ hq_2) (cwV 1 X.2.2.2.2.2.1 gX0_sumOf_X0_pairsOf rfl rfl rfl kdX0_pairsOf ⟨(Nat.le_of_ble_eq_true rfl), (Nat.le_of_ble_eq_true rfl)⟩) (by decide) rfl rfl rfl rfl hl.1 (Nat.le_of_ble_eq_true rfl) ⟨(Nat.le_of_ble_eq_true rfl), (Nat.le_of_ble_eq_true rfl)⟩ dX0_sumOf_3 (fun H locs hR hS => ?_)
  refine lv_ldc (v := (1000000 : Int32)) hx hb hown (X.2.2.2.2.2.1 _ wX0_sumOf_29) dX0_sumOf_6 ?_
  refine lv_imul hx hb dX0_sumOf_8 ?_
  refine lv_isub hx hb dX0_sumOf_9 ?_
  exact eI X hR hS (Option.some.inj hf) rfl dX0_sumOf_10
theorem zcX0_sumOf (l : Launch) (D : va_G) (cy : Nat → ClassId) (ad : Nat → Nat) (ba : Nat → Prop) (O : Int64) (S : teS) (x1 : Int32) (res : Int32) (hf : fX0_sumOf x1 S = some res) : cI l yX0_sumOf wsX0_sumOf rmX0_sumOf D cy ad ba O S [.ref (ad 367), .int x1] res S :=
  te_of (by decide +kernel) rfl (Nat.le_of_ble_eq_true rfl) (fun p e s m below meth c ls X hR hS hl => bX0_sumOf_0 (S := S) (x1 := x1) X _ _ _ hR hS hl hf)
