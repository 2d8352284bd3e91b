theorem tx_RX5_101_105_n : ∀ w ∈ (vx_atS RX5 105 "java/lang/IllegalArgumentException" ["java/lang/RuntimeException", "java/lang/Exception"]).filter (fun w => !goodWord w), w ∈ [Cond.castable "java/lang/IllegalArgumentException" "java/lang/IllegalArgumentException", .declares (Bundle.initS "java/lang/RuntimeException"), .declares (Bundle.initS "java/lang/Exception"), .declares (Bundle.initS "java/lang/Throwable")] := by decide +kernel
theorem tx_RX5_101_105_g : ∀ w ∈ Cond.classLink RX5 101 "java/lang/IllegalArgumentException" :: Cond.initialized "java/lang/IllegalArgumentException" :: vx_atS RX5 105 "java/lang/IllegalArgumentException" ["java/lang/RuntimeException", "java/lang/Exception"], vx_ot w = true := by decide +kernel
abbrev rmX5_requireRange : Room := { frames := 6, cells := 1, slots := 6, locals := 90 }
theorem kdX5_requireRange : yX5_requireRange.cls = RX5 ∧ yX5_requireRange.cls ≠ "java/lang/invoke/MethodHandle" ∧ yX5_requireRange.cls ≠ "java/lang/invoke/VarHandle" ∧ (parseMethodDescriptor yX5_requireRange.desc).map (fun d => d.parameters.length) = some 3 := by decide +kernel
theorem aX5_requireRange_105 : ∀ w ∈ (vx_atS RX5 105 "java/lang/IllegalArgumentException" ["java/lang/RuntimeException", "java/lang/Exception"]).filter goodWord, w ∈ wsX5_requireRange := fun _ h => List.mem_cons_of_mem _ (List.mem_append_right _ h)
theorem wX5_requireRange_k101 : Cond.classLink RX5 101 "java/lang/IllegalArgumentException" ∈ wsX5_requireRange := by decide +kernel
theorem wX5_requireRange_n101 : Cond.initialized "java/lang/IllegalArgumentException" ∈ wsX5_requireRange := by decide +kernel
set_option maxRecDepth 100000 in
set_option maxHeartbeats 4000000 in
theorem bX5_requireRange_0 {p : Program} {l : Launch} {e : Env} {s : State} {m : MethodId} {args : Array Value} {below : List Frame} {meth : Method} {c : Code} {D : va_G} {cy : Nat → ClassId} {ad : Nat → Nat} {ba : Nat → Prop} {O : Int64} {S : teS}  {x0 : Int32} {x1 : Int32} {x2 : Int32} {res : (Nat ⊕ Unit)} (X : teC wsX5_requireRange RX5 cX5_requireRange 3 none D cy ba p s m args meth c) (hN : ∀ x ∈ c.exceptionTable.toList, False) (hl0 : l.stackTraces = false) (H : Heap) (locs : List Loc) (ls : Array Slot) (hR : teR D cy ad ba O S H) (hS : va_S (teA ba) s.heap H locs) (hl : lv_has ls 3 [(0, .int x0), (1, .int x1), (2, .int x2)]) (hf : fX5_requireRange x0 x1 x2 S = some res) : W p l e (headSpec wsX5_requireRange rmX5_requireRange).room s m args below meth c H locs 0 0 (vx_MQ below (va_Qv (fun u => Sum.inr () = res ∧ u = S) (fun u t => teR D cy ad ba O u t.heap) (teA ba)) (teXC D cy ad ba O S (fun c => Sum.inl c = res)) args s 1 6 (teA ba)) (F0 m 0 ls []) := by
  have hx := X.1
  have hb := X.2.1
  have hown := X.2.2.2.2.1
  unfold fX5_requireRange at hf
  refine lv_iload_n hx hb dX5_requireRange_0 rfl (lv_at hl 0 rfl) ?_
  refine lv_iload_n hx hb dX5_requireRange_1 rfl (lv_at hl 1 rfl) ?_
  refine lv_icmp_lt (tgt := 10) hx hb dX5_requireRange_2 (by decide) (fun c_1 => ?_) (fun c_1 => ?_)
  · replace hf := ite_t c_1 hf
    exact te_thrW X hN hl0 hR hS hl.1 rfl (by decide +kernel) wX5_requireRange_k101 wX5_requireRange_n101 (text := "an argument is out of its range") (c0 := 1) (by decide +kernel) aX5_requireRange_105 tx_RX5_101_105_n tx_RX5_101_105_g X.2.2.2.2.2.2.2.2.2.2.1.1 dX5_requireRange_10 dX5_requireRange_13 dX5_requireRange_14 dX5_requireRange_17 dX5_requireRange_20 (Nat.le_of_ble_eq_true rfl) (Nat.le_of_ble_eq_true rfl) (Nat.le_of_ble_eq_true rfl) (Nat.le_of_ble_eq_true rfl) (Nat.le_of_ble_eq_true rfl) (Nat.le_of_ble_eq_true rfl) rfl (Option.some.inj hf)
  · replace hf := ite_f c_1 hf
    refine lv_iload_n hx hb dX5_requireRange_5 rfl (lv_at hl 0 rfl) ?_
    refine lv_iload_n hx hb dX5_requireRange_6 rfl (lv_at hl 2 rfl) ?_
    refine lv_icmp_le (tgt := 21) hx hb dX5_requireRange_7 (by decide) (fun c_2 => ?_) (fun c_2 => ?_)
    · replace hf := ite_t c_2 hf
      exact eVx X hR hS ⟨Option.some.inj hf, rfl⟩ (Nat.le_of_ble_eq_true rfl) (Nat.le_of_ble_eq_true rfl) dX5_requireRange_21
    · replace hf := ite_f c_2 hf
      exact te_thrW X hN hl0 hR hS hl.1 rfl (by decide +kernel) wX5_requireRange_k101 wX5_requireRange_n101 (text := "an argument is out of its range") (c0 := 1) (by decide +kernel) aX5_requireRange_105 tx_RX5_101_105_n tx_RX5_101_105_g X.2.2.2.2.2.2.2.2.2.2.1.1 dX5_requireRange_10 dX5_requireRange_13 dX5_requireRange_14 dX5_requireRange_17 dX5_requireRange_20 (Nat.le_of_ble_eq_true rfl) (Nat.le_of_ble_eq_true rfl) (Nat.le_of_ble_eq_true rfl) (Nat.le_of_ble_eq_true rfl) (Nat.le_of_ble_eq_true rfl) (Nat.le_of_ble_eq_true rfl) rfl (Option.some.inj hf)
theorem zcX5_requireRange (l : Launch) (D : va_G) (cy : Nat → ClassId) (ad : Nat → Nat) (ba : Nat → Prop) (O : Int64) (S : teS) (x0 : Int32) (x1 : Int32) (x2 : Int32) (hl0 : l.stackTraces = false) (res : (Nat ⊕ Unit)) (hf : fX5_requireRange x0 x1 x2 S = some res) : xP l yX5_requireRange wsX5_requireRange rmX5_requireRange 1 6 D cy ad ba O S [.int x0, .int x1, .int x2] res :=
  te_ofx (by decide) rfl (Nat.le_of_ble_eq_true rfl) (fun p e s m below meth c ls X hN hR hS hl => bX5_requireRange_0 (S := S) (x0 := x0) (x1 := x1) (x2 := x2) X hN hl0 _ _ _ hR hS hl hf)
abbrev rnX5_requireRange : Room := { frames := 0, cells := 0, slots := 0, locals := 0 }
set_option maxRecDepth 100000 in
set_option maxHeartbeats 4000000 in
theorem bnX5_requireRange_0 {p : Program} {l : Launch} {e : Env} {s : State} {m : MethodId} {args : Array Value} {below : List Frame} {meth : Method} {c : Code} {D : va_G} {cy : Nat → ClassId} {ad : Nat → Nat} {ba : Nat → Prop} {O : Int64} {S : teS} {x0 : Int32} {x1 : Int32} {x2 : Int32} (X : teC wsX5_requireRange RX5 cX5_requireRange 3 none D cy ba p s m args meth c) (hN : ∀ x ∈ c.exceptionTable.toList, False) (H : Heap) (locs : List Loc) (ls : Array Slot) (hR : teR D cy ad ba O S H) (hS : va_S (teA ba) s.heap H locs) (hl : lv_has ls 3 [(0, .int x0), (1, .int x1), (2, .int x2)]) (hf : fX5_requireRange x0 x1 x2 S = some (.inr ())) : W p l e (headSpec wsX5_requireRange rnX5_requireRange).room s m args below meth c H locs 0 0 (vx_MQ below (va_Qv (fun u => Sum.inr () = (Sum.inr () : Nat ⊕ Unit) ∧ u = S) (fun u t => teR D cy ad ba O u t.heap) (teA ba)) (teXC D cy ad ba O S (fun c => Sum.inl c = (Sum.inr () : Nat ⊕ Unit))) args s 0 0 (teA ba)) (F0 m 0 ls []) := by
  have hx := X.1
  have hb := X.2.1
  have hown := X.2.2.2.2.1
  unfold fX5_requireRange at hf
  refine lv_iload_n hx hb dX5_requireRange_0 rfl (lv_at hl 0 rfl) ?_
  refine lv_iload_n hx hb dX5_requireRange_1 rfl (lv_at hl 1 rfl) ?_
  refine lv_icmp_lt (tgt := 10) hx hb dX5_requireRange_2 (by decide) (fun c_1 => ?_) (fun c_1 => ?_)
  · replace hf := ite_t c_1 hf
    exact nomatch (Option.some.inj hf)
  · replace hf := ite_f c_1 hf
    refine lv_iload_n hx hb dX5_requireRange_5 rfl (lv_at hl 0 rfl) ?_
    refine lv_iload_n hx hb dX5_requireRange_6 rfl (lv_at hl 2 rfl) ?_
    refine lv_icmp_le (tgt := 21) hx hb dX5_requireRange_7 (by decide) (fun c_2 => ?_) (fun c_2 => ?_)
    · replace hf := ite_t c_2 hf
      exact eVx X hR hS ⟨Option.some.inj hf, rfl⟩ (Nat.le_of_ble_eq_true rfl) (Nat.le_of_ble_eq_true rfl) dX5_requireRange_21
    · replace hf := ite_f c_2 hf
      exact nomatch (Option.some.inj hf)
theorem znX5_requireRange (l : Launch) (D : va_G) (cy : Nat → ClassId) (ad : Nat → Nat) (ba : Nat → Prop) (O : Int64) (S : teS) (x0 : Int32) (x1 : Int32) (x2 : Int32) (hf : fX5_requireRange x0 x1 x2 S = some (.inr ())) : xP l yX5_requireRange wsX5_requireRange rnX5_requireRange 0 0 D cy ad ba O S [.int x0, .int x1, .int x2] (.inr ()) :=
  te_ofx (by decide) rfl (Nat.le_of_ble_eq_true rfl) (fun p e s m below meth c ls X hN hR hS hl => bnX5_requireRange_0 (S := S) (x0 := x0) (x1 := x1) (x2 := x2) X hN _ _ _ hR hS hl hf)
theorem tx_RX5_56_60_n : ∀ w ∈ (vx_atS RX5 60 "java/lang/IllegalStateException" ["java/lang/RuntimeException", "java/lang/Exception"]).filter (fun w => !goodWord w), w ∈ [Cond.castable "java/lang/IllegalStateException" "java/lang/IllegalStateException", .declares (Bundle.initS "java/lang/RuntimeException"), .declares (Bundle.initS "java/lang/Exception"), .declares (Bundle.initS "java/lang/Throwable")] := by decide +kernel
theorem tx_RX5_56_60_g : ∀ w ∈ Cond.classLink RX5 56 "java/lang/IllegalStateException" :: Cond.initialized "java/lang/IllegalStateException" :: vx_atS RX5 60 "java/lang/IllegalStateException" ["java/lang/RuntimeException", "java/lang/Exception"], vx_ot w = true := by decide +kernel
abbrev rmX5_append : Room := { frames := 7, cells := 1, slots := 6, locals := 112 }
theorem kdX5_append : yX5_append.cls = RX5 ∧ yX5_append.cls ≠ "java/lang/invoke/MethodHandle" ∧ yX5_append.cls ≠ "java/lang/invoke/VarHandle" ∧ (parseMethodDescriptor yX5_append.desc).map (fun d => d.parameters.length) = some 1 := by decide +kernel
theorem wX5_append_12 : Cond.fieldLink RX5 12 "TandemExchange" "text" "LTandemExchange$Text;" ∈ wsX5_append := by decide +kernel
theorem iX5_append_5 : ∀ w ∈ wsX50, w ∈ wsX5_append := fun _ h => List.mem_cons_of_mem _ (List.mem_append_left _ (List.mem_append_left _ (List.mem_append_left _ (List.mem_append_right _ h))))
theorem wX5_append_52 : Cond.fieldLink RX5 52 "TandemExchange$Text" "length" "I" ∈ wsX5_append := by decide +kernel
theorem iX5_append_4 : ∀ w ∈ wsX40, w ∈ wsX5_append := fun _ h => List.mem_cons_of_mem _ (List.mem_append_left _ (List.mem_append_left _ (List.mem_append_right _ h)))
theorem aX5_append_60 : ∀ w ∈ (vx_atS RX5 60 "java/lang/IllegalStateException" ["java/lang/RuntimeException", "java/lang/Exception"]).filter goodWord, w ∈ wsX5_append := fun _ h => List.mem_cons_of_mem _ (List.mem_append_left _ (List.mem_append_right _ h))
theorem wX5_append_k56 : Cond.classLink RX5 56 "java/lang/IllegalStateException" ∈ wsX5_append := by decide +kernel
theorem wX5_append_n56 : Cond.initialized "java/lang/IllegalStateException" ∈ wsX5_append := by decide +kernel
set_option maxRecDepth 100000 in
set_option maxHeartbeats 4000000 in
theorem bX5_append_0 {p : Program} {l : Launch} {e : Env} {s : State} {m : MethodId} {args : Array Value} {below : List Frame} {meth : Method} {c : Code} {D : va_G} {cy : Nat → ClassId} {ad : Nat → Nat} {ba : Nat → Prop} {O : Int64} {S : teS}  {x1 : Int32} {res : (Nat ⊕ (Int32 × teS))} (X : teC wsX5_append RX5 cX5_append 2 (some .int) D cy ba p s m args meth c) (hN : ∀ x ∈ c.exceptionTable.toList, False) (hl0 : l.stackTraces = false) (H : Heap) (locs : List Loc) (ls : Array Slot) (hR : teR D cy ad ba O S H) (hS : va_S (teA ba) s.heap H locs) (hl : lv_has ls 2 [(0, .ref (ad 360)), (1, .int x1)]) (hf : fX5_append x1 S = some res) : W p l e (headSpec wsX5_append rmX5_append).room s m args below meth c H locs 0 0 (vx_MQ below (va_Qi (fun a u => Sum.inr (a, u) = res) (fun u t => teR D cy ad ba O u t.heap) (teA ba)) (teXC D cy ad ba O S (fun c => Sum.inl c = res)) args s 1 6 (teA ba)) (F0 m 0 ls []) := by
  have hx := X.1
  have hb := X.2.1
  have hown := X.2.2.2.2.1
  unfold fX5_append at hf
  refine lv_iload_n hx hb dX5_append_0 rfl (lv_at hl 1 rfl) ?_
  refine lv_iconst (v := (0 : Int32)) hx hb dX5_append_1 (by decide) ?_
  refine lv_sipush (v := (255 : Int32)) hx hb dX5_append_2 (by decide) ?_
  rcases bx1_some hf with ⟨e_1, hq_2, hf⟩ | ⟨⟨⟩, hq_2, hf⟩
  · exact kSxl (As := [.int x1, .int (0 : Int32), .int (255 : Int32)]) (rest := []) X hN hR hS (zcX5_requireRange l D cy ad ba O S x1 (0 : Int32) (255 : Int32) hl0 _ hq_2) (va_cwS 3 X.2.2.2.2.2.1 gX5_append_X5_requireRange rfl rfl rfl kdX5_requireRange.2 ⟨(Nat.le_of_ble_eq_true rfl), (Nat.le_of_ble_eq_true rfl)⟩)  rfl rfl hl.1 (Nat.le_of_ble_eq_true rfl) ⟨(Nat.le_of_ble_eq_true rfl), (Nat.le_of_ble_eq_true rfl)⟩ (Nat.le_of_ble_eq_true rfl) (Nat.le_of_ble_eq_true rfl) dX5_append_5 hf.symm
  refine kSxr (As := [.int x1, .int (0 : Int32), .int (255 : Int32)]) (rest := []) X hR hS (znX5_requireRange l D cy ad ba O S x1 (0 : Int32) (255 : Int32) hq_2) (va_cwS 3 X.2.2.2.2.2.1 gX5_append_X5_requireRange rfl rfl rfl kdX5_requireRange.2 ⟨(Nat.le_of_ble_eq_true rfl), (Nat.le_of_ble_eq_true rfl)⟩)  rfl rfl hl.1 (Nat.le_of_ble_eq_true rfl) ⟨(Nat.le_of_ble_eq_true rfl), (Nat.le_of_ble_eq_true rfl)⟩ dX5_append_5 (fun H locs hR hS => ?_)
  refine lv_aload_n hx hb dX5_append_8 rfl (lv_at hl 0 rfl) ?_
  refine rg_5_0 X hR iX5_append_5 wX5_append_12 dX5_append_9 ?_
  refine rg_4_1 X hR iX5_append_4 wX5_append_52 dX5_append_12 ?_
  refine lv_bipush (v := (90 : Int32)) hx hb dX5_append_15 (by decide) ?_
  refine lv_icmp_lt (tgt := 30) hx hb dX5_append_17 (by decide) (fun c_3 => ?_) (fun c_3 => ?_)
  · replace hf := ite_t c_3 hf
    refine lv_aload_n hx hb dX5_append_30 rfl (lv_at hl 0 rfl) ?_
    refine rg_5_0 X hR iX5_append_5 wX5_append_12 dX5_append_31 ?_
    refine lv_iload_n hx hb dX5_append_34 rfl (lv_at hl 1 rfl) ?_
    refine lv_i2c hx hb dX5_append_35 rfl ?_
    obtain ⟨S1, hq_5, hf⟩ := bd1_some hf
    refine kVv (id := 361) (As := [.int ((x1).toUInt32 % 65536).toInt32]) (rest := []) X hR hS (zcX4_add l D cy ad ba O S (((x1).toUInt32 % 65536).toInt32) _ hq_5) (cwV 1 X.2.2.2.2.2.1 gX5_append_X4_add rfl rfl rfl kdX4_add ⟨(Nat.le_of_ble_eq_true rfl), (Nat.le_of_ble_eq_true rfl)⟩) (by decide) rfl rfl rfl rfl hl.1 (Nat.le_of_ble_eq_true rfl) ⟨(Nat.le_of_ble_eq_true rfl), (Nat.le_of_ble_eq_true rfl)⟩ dX5_append_36 (fun H locs hR hS => ?_)
    refine lv_aload_n hx hb dX5_append_39 rfl (lv_at hl 0 rfl) ?_
    refine rg_5_0 X hR iX5_append_5 wX5_append_12 dX5_append_40 ?_
    refine rg_4_1 X hR iX5_append_4 wX5_append_52 dX5_append_43 ?_
    exact eIx X hR hS (Option.some.inj hf) (Nat.le_of_ble_eq_true rfl) (Nat.le_of_ble_eq_true rfl) dX5_append_46
  · replace hf := ite_f c_3 hf
    exact te_thr X hN hl0 hR hS hl.1 rfl (by decide +kernel) wX5_append_k56 wX5_append_n56 (text := "the text is full") (c0 := 2) (by decide +kernel) aX5_append_60 tx_RX5_56_60_n tx_RX5_56_60_g X.2.2.2.2.2.2.2.2.2.2.1.2.1 dX5_append_20 dX5_append_23 dX5_append_24 dX5_append_26 dX5_append_29 (Nat.le_of_ble_eq_true rfl) (Nat.le_of_ble_eq_true rfl) (Nat.le_of_ble_eq_true rfl) (Nat.le_of_ble_eq_true rfl) (Nat.le_of_ble_eq_true rfl) (Nat.le_of_ble_eq_true rfl) rfl (Option.some.inj hf)
theorem zcX5_append (l : Launch) (D : va_G) (cy : Nat → ClassId) (ad : Nat → Nat) (ba : Nat → Prop) (O : Int64) (S : teS) (x1 : Int32) (hl0 : l.stackTraces = false) (res : (Nat ⊕ (Int32 × teS))) (hf : fX5_append x1 S = some res) : xQ l yX5_append wsX5_append rmX5_append 1 6 D cy ad ba O S [.ref (ad 360), .int x1] res :=
  te_ofx (by decide) rfl (Nat.le_of_ble_eq_true rfl) (fun p e s m below meth c ls X hN hR hS hl => bX5_append_0 (S := S) (x1 := x1) X hN hl0 _ _ _ hR hS hl hf)
abbrev rmX5_clearText : Room := { frames := 0, cells := 0, slots := 0, locals := 0 }
theorem kdX5_clearText : yX5_clearText.cls = RX5 ∧ yX5_clearText.cls ≠ "java/lang/invoke/MethodHandle" ∧ yX5_clearText.cls ≠ "java/lang/invoke/VarHandle" ∧ (parseMethodDescriptor yX5_clearText.desc).map (fun d => d.parameters.length) = some 0 := by decide +kernel
theorem wX5_clearText_12 : Cond.fieldLink RX5 12 "TandemExchange" "text" "LTandemExchange$Text;" ∈ wsX5_clearText := by decide +kernel
theorem iX5_clearText_5 : ∀ w ∈ wsX50, w ∈ wsX5_clearText := fun _ h => List.mem_cons_of_mem _ (List.mem_append_left _ (List.mem_append_right _ h))
theorem wX5_clearText_52 : Cond.fieldLink RX5 52 "TandemExchange$Text" "length" "I" ∈ wsX5_clearText := by decide +kernel
theorem iX5_clearText_4 : ∀ w ∈ wsX40, w ∈ wsX5_clearText := fun _ h => List.mem_cons_of_mem _ (List.mem_append_right _ h)
set_option maxRecDepth 100000 in
set_option maxHeartbeats 4000000 in
theorem bX5_clearText_0 {p : Program} {l : Launch} {e : Env} {s : State} {m : MethodId} {args : Array Value} {below : List Frame} {meth : Method} {c : Code} {D : va_G} {cy : Nat → ClassId} {ad : Nat → Nat} {ba : Nat → Prop} {O : Int64} {S : teS}  {res : (Int32 × teS)} (X : teC wsX5_clearText RX5 cX5_clearText 2 (some .int) D cy ba p s m args meth c) (H : Heap) (locs : List Loc) (ls : Array Slot) (hR : teR D cy ad ba O S H) (hS : va_S (teA ba) s.heap H locs) (hl : lv_has ls 2 [(0, .ref (ad 360))]) (hf : fX5_clearText S = some res) : W p l e (headSpec wsX5_clearText rmX5_clearText).room s m args below meth c H locs 0 0 (MQ below (va_Qi (fun a (u : teS) => a = res.1 ∧ u = res.2) (fun u t => teR D cy ad ba O u t.heap) (teA ba)) args s 0 0 (teA ba)) (F0 m 0 ls []) := by
  have hx := X.1
  have hb := X.2.1
  have hown := X.2.2.2.2.1
  unfold fX5_clearText at hf
  refine lv_aload_n hx hb dX5_clearText_0 rfl (lv_at hl 0 rfl) ?_
  refine rg_5_0 X hR iX5_clearText_5 wX5_clearText_12 dX5_clearText_1 ?_
  refine rg_4_1 X hR iX5_clearText_4 wX5_clearText_52 dX5_clearText_4 ?_
  refine lv_istore_n (lv' := [(1, .int (S 361 0)), (0, .ref (ad 360))]) hx hb dX5_clearText_7 rfl hl (by decide) rfl (fun ls hl => ?_)
  refine lv_aload_n hx hb dX5_clearText_8 rfl (lv_at hl 1 rfl) ?_
  refine rg_5_0 X hR iX5_clearText_5 wX5_clearText_12 dX5_clearText_9 ?_
  refine lv_iconst (v := (0 : Int32)) hx hb dX5_clearText_12 (by decide) ?_
  refine rp_4_1 X hR hS iX5_clearText_4 wX5_clearText_52 dX5_clearText_13 (fun H locs hR hS => ?_)
  generalize teu S 361 0 (0 : Int32) = S1 at hf hR
  replace hf := lt1_e hf
  refine lv_iload_n hx hb dX5_clearText_16 rfl (lv_at hl 0 rfl) ?_
  exact eI X hR hS (congrArg Prod.fst (Option.some.inj hf)) (congrArg Prod.snd (Option.some.inj hf)) dX5_clearText_17
theorem zcX5_clearText (l : Launch) (D : va_G) (cy : Nat → ClassId) (ad : Nat → Nat) (ba : Nat → Prop) (O : Int64) (S : teS) (r : Int32) (S1 : teS) (hf : fX5_clearText S = some (r, S1)) : cI l yX5_clearText wsX5_clearText rmX5_clearText D cy ad ba O S [.ref (ad 360)] r S1 :=
  te_of (by decide) rfl (Nat.le_of_ble_eq_true rfl) (fun p e s m below meth c ls X hR hS hl => bX5_clearText_0 (res := (r, S1)) (S := S)  X _ _ _ hR hS hl hf)
abbrev rmX5_errorPosition : Room := { frames := 2, cells := 0, slots := 0, locals := 45 }
theorem kdX5_errorPosition : yX5_errorPosition.cls = RX5 ∧ yX5_errorPosition.cls ≠ "java/lang/invoke/MethodHandle" ∧ yX5_errorPosition.cls ≠ "java/lang/invoke/VarHandle" ∧ (parseMethodDescriptor yX5_errorPosition.desc).map (fun d => d.parameters.length) = some 0 := by decide +kernel
theorem wX5_errorPosition_12 : Cond.fieldLink RX5 12 "TandemExchange" "text" "LTandemExchange$Text;" ∈ wsX5_errorPosition := by decide +kernel
theorem iX5_errorPosition_5 : ∀ w ∈ wsX50, w ∈ wsX5_errorPosition := fun _ h => List.mem_cons_of_mem _ (List.mem_append_left _ (List.mem_append_right _ h))
set_option maxRecDepth 100000 in
set_option maxHeartbeats 4000000 in
theorem bX5_errorPosition_0 {p : Program} {l : Launch} {e : Env} {s : State} {m : MethodId} {args : Array Value} {below : List Frame} {meth : Method} {c : Code} {D : va_G} {cy : Nat → ClassId} {ad : Nat → Nat} {ba : Nat → Prop} {O : Int64} {S : teS}  {res : Int32} (X : teC wsX5_errorPosition RX5 cX5_errorPosition 1 (some .int) D cy ba p s m args meth c) (H : Heap) (locs : List Loc) (ls : Array Slot) (hR : teR D cy ad ba O S H) (hS : va_S (teA ba) s.heap H locs) (hl : lv_has ls 1 [(0, .ref (ad 360))]) (hf : fX5_errorPosition S = some res) : W p l e (headSpec wsX5_errorPosition rmX5_errorPosition).room s m args below meth c H locs 0 0 (MQ below (va_Qi (fun a (u : teS) => a = res ∧ u = S) (fun u t => teR D cy ad ba O u t.heap) (teA ba)) args s 0 0 (teA ba)) (F0 m 0 ls []) := by
  have hx := X.1
  have hb := X.2.1
  have hown := X.2.2.2.2.1
  unfold fX5_errorPosition at hf
  refine lv_aload_n hx hb dX5_errorPosition_0 rfl (lv_at hl 0 rfl) ?_
  refine rg_5_0 X hR iX5_errorPosition_5 wX5_errorPosition_12 dX5_errorPosition_1 ?_
  obtain ⟨r_1, hq_2, hf⟩ := bd1_some hf
  refine kVi (id := 361) (As := []) (rest := []) X hR hS (zcX4_firstError l D cy ad ba O S _ hq_2) (cwV 0 X.2.2.2.2.2.1 gX5_errorPosition_X4_firstError rfl rfl rfl kdX4_firstError ⟨(Nat.le_of_ble_eq_true rfl), (Nat.le_of_ble_eq_true rfl)⟩) (by decide) rfl rfl rfl rfl hl.1 (Nat.le_of_ble_eq_true rfl) ⟨(Nat.le_of_ble_eq_true rfl), (Nat.le_of_ble_eq_true rfl)⟩ dX5_errorPosition_4 (fun H locs hR hS => ?_)
  exact eI X hR hS (Option.some.inj hf) rfl dX5_errorPosition_7
theorem zcX5_errorPosition (l : Launch) (D : va_G) (cy : Nat → ClassId) (ad : Nat → Nat) (ba : Nat → Prop) (O : Int64) (S : teS) (res : Int32) (hf : fX5_errorPosition S = some res) : cI l yX5_errorPosition wsX5_errorPosition rmX5_errorPosition D cy ad ba O S [.ref (ad 360)] res S :=
  te_of (by decide +kernel) rfl (Nat.le_of_ble_eq_true rfl) (fun p e s m below meth c ls X hR hS hl => bX5_errorPosition_0 (S := S)  X _ _ _ hR hS hl hf)
abbrev rmX5_load : Room := { frames := 6, cells := 1, slots := 6, locals := 90 }
theorem kdX5_load : yX5_load.cls = RX5 ∧ yX5_load.cls ≠ "java/lang/invoke/MethodHandle" ∧ yX5_load.cls ≠ "java/lang/invoke/VarHandle" ∧ (parseMethodDescriptor yX5_load.desc).map (fun d => d.parameters.length) = some 0 := by decide +kernel
theorem wX5_load_12 : Cond.fieldLink RX5 12 "TandemExchange" "text" "LTandemExchange$Text;" ∈ wsX5_load := by decide +kernel
theorem iX5_load_5 : ∀ w ∈ wsX50, w ∈ wsX5_load := by decide +kernel
theorem wX5_load_19 : Cond.fieldLink RX5 19 "TandemExchange" "circle" "LTandemExchange$Circle;" ∈ wsX5_load := by decide +kernel
theorem wX5_load_29 : Cond.fieldLink RX5 29 "TandemExchange" "history" "LTandemExchange$History;" ∈ wsX5_load := by decide +kernel
theorem aX5_load_60 : ∀ w ∈ (vx_atS RX5 60 "java/lang/IllegalStateException" ["java/lang/RuntimeException", "java/lang/Exception"]).filter goodWord, w ∈ wsX5_load := by decide +kernel
theorem wX5_load_k56 : Cond.classLink RX5 56 "java/lang/IllegalStateException" ∈ wsX5_load := by decide +kernel
theorem wX5_load_n56 : Cond.initialized "java/lang/IllegalStateException" ∈ wsX5_load := by decide +kernel
theorem wX5_load_80 : Cond.fieldLink RX5 80 "TandemExchange$Circle" "size" "I" ∈ wsX5_load := by decide +kernel
theorem iX5_load_1 : ∀ w ∈ wsX10, w ∈ wsX5_load := by decide +kernel
theorem wX5_load_37 : Cond.fieldLink RX5 37 "TandemExchange" "saved" "[Z" ∈ wsX5_load := by decide +kernel
set_option maxRecDepth 100000 in
set_option maxHeartbeats 4000000 in
theorem bX5_load_43 {p : Program} {l : Launch} {e : Env} {s : State} {m : MethodId} {args : Array Value} {below : List Frame} {meth : Method} {c : Code} {D : va_G} {cy : Nat → ClassId} {ad : Nat → Nat} {ba : Nat → Prop} {O : Int64} {S : teS}  {res : (Nat ⊕ (Int32 × teS))} (X : teC wsX5_load RX5 cX5_load 2 (some .int) D cy ba p s m args meth c) (hN : ∀ x ∈ c.exceptionTable.toList, False) (hl0 : l.stackTraces = false) : ∀ (n : Nat), ∀ (S1 : teS) (v1 : Int32) (H : Heap) (locs : List Loc) (ls : Array Slot), teR D cy ad ba O S1 H → va_S (teA ba) s.heap H locs → lv_has ls 2 [(0, .ref (ad 360)), (1, .int v1)] → fX5_load_43 n S1 v1 = some res → W p l e (headSpec wsX5_load rmX5_load).room s m args below meth c H locs 1 6 (vx_MQ below (va_Qi (fun a u => Sum.inr (a, u) = res) (fun u t => teR D cy ad ba O u t.heap) (teA ba)) (teXC D cy ad ba O S (fun c => Sum.inl c = res)) args s 1 6 (teA ba)) (F0 m 43 ls []) := by
  have hx := X.1
  have hb := X.2.1
  have hown := X.2.2.2.2.1
  intro n
  induction n with
  | zero =>
    intro S1 v1 H locs ls hR hS hl hf
    exact nomatch hf
  | succ n ih =>
    intro S1 v1 H locs ls hR hS hl hf
    unfold fX5_load_43 at hf
    refine lv_iload_n hx hb dX5_load_43 rfl (lv_at hl 1 rfl) ?_
    refine lv_iconst (v := (2 : Int32)) hx hb dX5_load_44 (by decide) ?_
    refine lv_icmp_ge (tgt := 61) hx hb dX5_load_45 (by decide) (fun c_8 => ?_) (fun c_8 => ?_)
    · replace hf := ite_t c_8 hf
      refine lv_aload_n hx hb dX5_load_61 rfl (lv_at hl 0 rfl) ?_
      refine rg_5_1 X hR iX5_load_5 wX5_load_19 dX5_load_62 ?_
      refine rg_1_1 X hR (by decide) iX5_load_1 wX5_load_80 dX5_load_65 ?_
      exact eIx X hR hS (Option.some.inj hf) (Nat.le_of_ble_eq_true rfl) (Nat.le_of_ble_eq_true rfl) dX5_load_68
    · replace hf := ite_f c_8 hf
      refine lv_aload_n hx hb dX5_load_48 rfl (lv_at hl 0 rfl) ?_
      refine rg_5_5 X hR iX5_load_5 wX5_load_37 dX5_load_49 ?_
      refine lv_iload_n hx hb dX5_load_52 rfl (lv_at hl 1 rfl) ?_
      refine lv_iconst (v := (0 : Int32)) hx hb dX5_load_53 (by decide) ?_
      obtain ⟨h_9, hf⟩ := chk_some hf
      refine rs_z366 X hR hS h_9 dX5_load_54 (fun H locs hR hS => ?_)
      generalize teu S1 366 v1.toNatClampNeg (vp_nar .boolean (0 : Int32)) = S2 at hf hR
      replace hf := lt1_e hf
      refine lv_iinc (v := (v1 + (1 : Int32))) (lv' := [(1, .int (v1 + (1 : Int32))), (0, .ref (ad 360))]) hx hb dX5_load_55 hl (k := 1) rfl rfl (by decide) rfl (fun ls hl => ?_)
      refine lv_goto (tgt := 43) hx hb dX5_load_58 (by decide) ?_
      exact ih S2 ((v1 + (1 : Int32))) _ _ _ hR hS (lv_sub hl [1, 0] rfl) hf
set_option maxRecDepth 100000 in
set_option maxHeartbeats 4000000 in
theorem bX5_load_0 {p : Program} {l : Launch} {e : Env} {s : State} {m : MethodId} {args : Array Value} {below : List Frame} {meth : Method} {c : Code} {D : va_G} {cy : Nat → ClassId} {ad : Nat → Nat} {ba : Nat → Prop} {O : Int64} {S : teS}  {res : (Nat ⊕ (Int32 × teS))} (X : teC wsX5_load RX5 cX5_load 2 (some .int) D cy ba p s m args meth c) (hN : ∀ x ∈ c.exceptionTable.toList, False) (hl0 : l.stackTraces = false) (H : Heap) (locs : List Loc) (ls : Array Slot) (hR : teR D cy ad ba O S H) (hS : va_S (teA ba) s.heap H locs) (hl : lv_has ls 2 [(0, .ref (ad 360))]) (hf : fX5_load S = some res) : W p l e (headSpec wsX5_load rmX5_load).room s m args below meth c H locs 0 0 (vx_MQ below (va_Qi (fun a u => Sum.inr (a, u) = res) (fun u t => teR D cy ad ba O u t.heap) (teA ba)) (teXC D cy ad ba O S (fun c => Sum.inl c = res)) args s 1 6 (teA ba)) (F0 m 0 ls []) := by
  have hx := X.1
  have hb := X.2.1
  have hown := X.2.2.2.2.1
  unfold fX5_load at hf
  refine lv_aload_n hx hb dX5_load_0 rfl (lv_at hl 0 rfl) ?_
  refine rg_5_0 X hR iX5_load_5 wX5_load_12 dX5_load_1 ?_
  obtain ⟨r_1, hq_2, hf⟩ := bd1_some hf
  refine kVi (id := 361) (As := []) (rest := []) X hR hS (zcX4_firstError l D cy ad ba O S _ hq_2) (cwV 0 X.2.2.2.2.2.1 gX5_load_X4_firstError rfl rfl rfl kdX4_firstError ⟨(Nat.le_of_ble_eq_true rfl), (Nat.le_of_ble_eq_true rfl)⟩) (by decide) rfl rfl rfl rfl hl.1 (Nat.le_of_ble_eq_true rfl) ⟨(Nat.le_of_ble_eq_true rfl), (Nat.le_of_ble_eq_true rfl)⟩ dX5_load_4 (fun H locs hR hS => ?_)
  refine lv_sipush (v := (-9999 : Int32)) hx hb dX5_load_7 (by decide) ?_
  refine lv_icmp_eq (tgt := 23) hx hb dX5_load_10 (by decide) (fun c_3 => ?_) (fun c_3 => ?_)
  · replace hf := ite_t c_3 hf
    refine lv_aload_n hx hb dX5_load_23 rfl (lv_at hl 0 rfl) ?_
    refine rg_5_0 X hR iX5_load_5 wX5_load_12 dX5_load_24 ?_
    refine lv_aload_n hx hb dX5_load_27 rfl (lv_at hl 0 rfl) ?_
    refine rg_5_1 X hR iX5_load_5 wX5_load_19 dX5_load_28 ?_
    obtain ⟨S1, hq_5, hf⟩ := bd1_some hf
    refine kVv (id := 361) (As := [.ref (ad (20 * 0))]) (rest := []) X hR hS (zcX4_readInto l D cy ad ba O S 0 (by decide) _ hq_5) (cwV 1 X.2.2.2.2.2.1 gX5_load_X4_readInto rfl rfl rfl kdX4_readInto ⟨(Nat.le_of_ble_eq_true rfl), (Nat.le_of_ble_eq_true rfl)⟩) (by decide) rfl rfl rfl rfl hl.1 (Nat.le_of_ble_eq_true rfl) ⟨(Nat.le_of_ble_eq_true rfl), (Nat.le_of_ble_eq_true rfl)⟩ dX5_load_31 (fun H locs hR hS => ?_)
    refine lv_aload_n hx hb dX5_load_34 rfl (lv_at hl 0 rfl) ?_
    refine rg_5_3 X hR iX5_load_5 wX5_load_29 dX5_load_35 ?_
    obtain ⟨S2, hq_7, hf⟩ := bd1_some hf
    refine kVv (id := 363) (As := []) (rest := []) X hR hS (zcX2_forget l D cy ad ba O S1 _ hq_7) (cwV 0 X.2.2.2.2.2.1 gX5_load_X2_forget rfl rfl rfl kdX2_forget ⟨(Nat.le_of_ble_eq_true rfl), (Nat.le_of_ble_eq_true rfl)⟩) (by decide) rfl rfl rfl rfl hl.1 (Nat.le_of_ble_eq_true rfl) ⟨(Nat.le_of_ble_eq_true rfl), (Nat.le_of_ble_eq_true rfl)⟩ dX5_load_38 (fun H locs hR hS => ?_)
    refine lv_iconst (v := (0 : Int32)) hx hb dX5_load_41 (by decide) ?_
    refine lv_istore_n (lv' := [(1, .int (0 : Int32)), (0, .ref (ad 360))]) hx hb dX5_load_42 rfl hl (by decide) rfl (fun ls hl => ?_)
    refine W.widen (k := 1) (n := 6) (Nat.le_of_ble_eq_true rfl) (Nat.le_of_ble_eq_true rfl) ?_
    exact bX5_load_43 (S := S)  X hN hl0 2000 S2 ((0 : Int32)) _ _ _ hR hS (lv_sub hl [1, 0] rfl) hf
  · replace hf := ite_f c_3 hf
    exact te_thr X hN hl0 hR hS hl.1 rfl (by decide +kernel) wX5_load_k56 wX5_load_n56 (text := "the text is not as described") (c0 := 2) (by decide +kernel) aX5_load_60 tx_RX5_56_60_n tx_RX5_56_60_g X.2.2.2.2.2.2.2.2.2.2.1.2.1 dX5_load_13 dX5_load_16 dX5_load_17 dX5_load_19 dX5_load_22 (Nat.le_of_ble_eq_true rfl) (Nat.le_of_ble_eq_true rfl) (Nat.le_of_ble_eq_true rfl) (Nat.le_of_ble_eq_true rfl) (Nat.le_of_ble_eq_true rfl) (Nat.le_of_ble_eq_true rfl) rfl (Option.some.inj hf)
theorem zcX5_load (l : Launch) (D : va_G) (cy : Nat → ClassId) (ad : Nat → Nat) (ba : Nat → Prop) (O : Int64) (S : teS) (hl0 : l.stackTraces = false) (res : (Nat ⊕ (Int32 × teS))) (hf : fX5_load S = some res) : xQ l yX5_load wsX5_load rmX5_load 1 6 D cy ad ba O S [.ref (ad 360)] res :=
  te_ofx (by decide) rfl (Nat.le_of_ble_eq_true rfl) (fun p e s m below meth c ls X hN hR hS hl => bX5_load_0 (S := S)  X hN hl0 _ _ _ hR hS hl hf)
abbrev rmX5_about : Room := { frames := 6, cells := 1, slots := 6, locals := 114 }
theorem kdX5_about : yX5_about.cls = RX5 ∧ yX5_about.cls ≠ "java/lang/invoke/MethodHandle" ∧ yX5_about.cls ≠ "java/lang/invoke/VarHandle" ∧ (parseMethodDescriptor yX5_about.desc).map (fun d => d.parameters.length) = some 1 := by decide +kernel
theorem wX5_about_19 : Cond.fieldLink RX5 19 "TandemExchange" "circle" "LTandemExchange$Circle;" ∈ wsX5_about := by decide +kernel
theorem iX5_about_5 : ∀ w ∈ wsX50, w ∈ wsX5_about := by decide +kernel
theorem wX5_about_80 : Cond.fieldLink RX5 80 "TandemExchange$Circle" "size" "I" ∈ wsX5_about := by decide +kernel
theorem iX5_about_1 : ∀ w ∈ wsX10, w ∈ wsX5_about := by decide +kernel
theorem wX5_about_86 : Cond.fieldLink RX5 86 "TandemExchange$Circle" "weeks" "I" ∈ wsX5_about := by decide +kernel
theorem aX5_about_105 : ∀ w ∈ (vx_atS RX5 105 "java/lang/IllegalArgumentException" ["java/lang/RuntimeException", "java/lang/Exception"]).filter goodWord, w ∈ wsX5_about := by decide +kernel
theorem wX5_about_k101 : Cond.classLink RX5 101 "java/lang/IllegalArgumentException" ∈ wsX5_about := by decide +kernel
theorem wX5_about_n101 : Cond.initialized "java/lang/IllegalArgumentException" ∈ wsX5_about := by decide +kernel
set_option maxRecDepth 100000 in
set_option maxHeartbeats 4000000 in
theorem bX5_about_0 {p : Program} {l : Launch} {e : Env} {s : State} {m : MethodId} {args : Array Value} {below : List Frame} {meth : Method} {c : Code} {D : va_G} {cy : Nat → ClassId} {ad : Nat → Nat} {ba : Nat → Prop} {O : Int64} {S : teS}  {x1 : Int32} {res : (Nat ⊕ (Int32 × teS))} (X : teC wsX5_about RX5 cX5_about 2 (some .int) D cy ba p s m args meth c) (hN : ∀ x ∈ c.exceptionTable.toList, False) (hl0 : l.stackTraces = false) (H : Heap) (locs : List Loc) (ls : Array Slot) (hR : teR D cy ad ba O S H) (hS : va_S (teA ba) s.heap H locs) (hl : lv_has ls 2 [(0, .ref (ad 360)), (1, .int x1)]) (hf : fX5_about x1 S = some res) : W p l e (headSpec wsX5_about rmX5_about).room s m args below meth c H locs 0 0 (vx_MQ below (va_Qi (fun a u => Sum.inr (a, u) = res) (fun u t => teR D cy ad ba O u t.heap) (teA ba)) (teXC D cy ad ba O S (fun c => Sum.inl c = res)) args s 1 6 (teA ba)) (F0 m 0 ls []) := by
  have hx := X.1
  have hb := X.2.1
  have hown := X.2.2.2.2.1
  unfold fX5_about at hf
  refine lv_iload_n hx hb dX5_about_0 rfl (lv_at hl 1 rfl) ?_
  by_cases c_1 : x1 = (0 : Int32)
  · replace hf := ite_t c_1 hf
    refine lv_tableIn (off := 43) (tgt := 44) hx hb dX5_about_1 (by rw [c_1]; decide) (by rw [c_1]; decide) (by rw [c_1]; decide) (by decide) ?_
    refine lv_aload_n hx hb dX5_about_44 rfl (lv_at hl 0 rfl) ?_
    refine rg_5_1 X hR iX5_about_5 wX5_about_19 dX5_about_45 ?_
    refine rg_1_1 X hR (by decide) iX5_about_1 wX5_about_80 dX5_about_48 ?_
    exact eIx X hR hS (Option.some.inj hf) (Nat.le_of_ble_eq_true rfl) (Nat.le_of_ble_eq_true rfl) dX5_about_51
  replace hf := ite_f c_1 hf
  by_cases c_2 : x1 = (1 : Int32)
  · replace hf := ite_t c_2 hf
    refine lv_tableIn (off := 51) (tgt := 52) hx hb dX5_about_1 (by rw [c_2]; decide) (by rw [c_2]; decide) (by rw [c_2]; decide) (by decide) ?_
    refine lv_aload_n hx hb dX5_about_52 rfl (lv_at hl 0 rfl) ?_
    refine rg_5_1 X hR iX5_about_5 wX5_about_19 dX5_about_53 ?_
    obtain ⟨r_3, hq_4, hf⟩ := bd1_some hf
    refine kVi (id := (20 * 0)) (As := []) (rest := []) X hR hS (zcX1_countPairs l D cy ad ba O S 0 (by decide) _ hq_4) (cwV 0 X.2.2.2.2.2.1 gX5_about_X1_countPairs rfl rfl rfl kdX1_countPairs ⟨(Nat.le_of_ble_eq_true rfl), (Nat.le_of_ble_eq_true rfl)⟩) (te_idc (by decide)) (teE_circ cy ad O S (by decide)) rfl rfl rfl hl.1 (Nat.le_of_ble_eq_true rfl) ⟨(Nat.le_of_ble_eq_true rfl), (Nat.le_of_ble_eq_true rfl)⟩ dX5_about_56 (fun H locs hR hS => ?_)
    exact eIx X hR hS (Option.some.inj hf) (Nat.le_of_ble_eq_true rfl) (Nat.le_of_ble_eq_true rfl) dX5_about_59
  replace hf := ite_f c_2 hf
  by_cases c_5 : x1 = (2 : Int32)
  · replace hf := ite_t c_5 hf
    refine lv_tableIn (off := 59) (tgt := 60) hx hb dX5_about_1 (by rw [c_5]; decide) (by rw [c_5]; decide) (by rw [c_5]; decide) (by decide) ?_
    refine lv_aload_n hx hb dX5_about_60 rfl (lv_at hl 0 rfl) ?_
    refine rg_5_1 X hR iX5_about_5 wX5_about_19 dX5_about_61 ?_
    refine rg_1_2 X hR (by decide) iX5_about_1 wX5_about_86 dX5_about_64 ?_
    exact eIx X hR hS (Option.some.inj hf) (Nat.le_of_ble_eq_true rfl) (Nat.le_of_ble_eq_true rfl) dX5_about_67
  replace hf := ite_f c_5 hf
  by_cases c_6 : x1 = (3 : Int32)
  · replace hf := ite_t c_6 hf
    refine lv_tableIn (off := 67) (tgt := 68) hx hb dX5_about_1 (by rw [c_6]; decide) (by rw [c_6]; decide) (by rw [c_6]; decide) (by decide) ?_
    refine lv_aload_n hx hb dX5_about_68 rfl (lv_at hl 0 rfl) ?_
    refine rg_5_1 X hR iX5_about_5 wX5_about_19 dX5_about_69 ?_
    obtain ⟨r_7, hq_8, hf⟩ := bd1_some hf
    refine kVi (id := (20 * 0)) (As := []) (rest := []) X hR hS (zcX1_sumOfValues l D cy ad ba O S 0 (by decide) _ hq_8) (cwV 0 X.2.2.2.2.2.1 gX5_about_X1_sumOfValues rfl rfl rfl kdX1_sumOfValues ⟨(Nat.le_of_ble_eq_true rfl), (Nat.le_of_ble_eq_true rfl)⟩) (te_idc (by decide)) (teE_circ cy ad O S (by decide)) rfl rfl rfl hl.1 (Nat.le_of_ble_eq_true rfl) ⟨(Nat.le_of_ble_eq_true rfl), (Nat.le_of_ble_eq_true rfl)⟩ dX5_about_72 (fun H locs hR hS => ?_)
    exact eIx X hR hS (Option.some.inj hf) (Nat.le_of_ble_eq_true rfl) (Nat.le_of_ble_eq_true rfl) dX5_about_75
  replace hf := ite_f c_6 hf
  by_cases c_9 : x1 = (4 : Int32)
  · replace hf := ite_t c_9 hf
    refine lv_tableIn (off := 75) (tgt := 76) hx hb dX5_about_1 (by rw [c_9]; decide) (by rw [c_9]; decide) (by rw [c_9]; decide) (by decide) ?_
    refine lv_aload_n hx hb dX5_about_76 rfl (lv_at hl 0 rfl) ?_
    refine rg_5_1 X hR iX5_about_5 wX5_about_19 dX5_about_77 ?_
    obtain ⟨r_10, hq_11, hf⟩ := bd1_some hf
    refine kVi (id := (20 * 0)) (As := []) (rest := []) X hR hS (zcX1_countBlocking l D cy ad ba O S 0 (by decide) _ hq_11) (cwV 0 X.2.2.2.2.2.1 gX5_about_X1_countBlocking rfl rfl rfl kdX1_countBlocking ⟨(Nat.le_of_ble_eq_true rfl), (Nat.le_of_ble_eq_true rfl)⟩) (te_idc (by decide)) (teE_circ cy ad O S (by decide)) rfl rfl rfl hl.1 (Nat.le_of_ble_eq_true rfl) ⟨(Nat.le_of_ble_eq_true rfl), (Nat.le_of_ble_eq_true rfl)⟩ dX5_about_80 (fun H locs hR hS => ?_)
    exact eIx X hR hS (Option.some.inj hf) (Nat.le_of_ble_eq_true rfl) (Nat.le_of_ble_eq_true rfl) dX5_about_83
  replace hf := ite_f c_9 hf
  by_cases c_12 : x1 = (5 : Int32)
  · replace hf := ite_t c_12 hf
    refine lv_tableIn (off := 83) (tgt := 84) hx hb dX5_about_1 (by rw [c_12]; decide) (by rw [c_12]; decide) (by rw [c_12]; decide) (by decide) ?_
    refine lv_aload_n hx hb dX5_about_84 rfl (lv_at hl 0 rfl) ?_
    refine rg_5_1 X hR iX5_about_5 wX5_about_19 dX5_about_85 ?_
    obtain ⟨r_13, hq_14, hf⟩ := bd1_some hf
    refine kVi (id := (20 * 0)) (As := []) (rest := []) X hR hS (zcX1_sumOfCredits l D cy ad ba O S 0 (by decide) _ hq_14) (cwV 0 X.2.2.2.2.2.1 gX5_about_X1_sumOfCredits rfl rfl rfl kdX1_sumOfCredits ⟨(Nat.le_of_ble_eq_true rfl), (Nat.le_of_ble_eq_true rfl)⟩) (te_idc (by decide)) (teE_circ cy ad O S (by decide)) rfl rfl rfl hl.1 (Nat.le_of_ble_eq_true rfl) ⟨(Nat.le_of_ble_eq_true rfl), (Nat.le_of_ble_eq_true rfl)⟩ dX5_about_88 (fun H locs hR hS => ?_)
    exact eIx X hR hS (Option.some.inj hf) (Nat.le_of_ble_eq_true rfl) (Nat.le_of_ble_eq_true rfl) dX5_about_91
  replace hf := ite_f c_12 hf
  by_cases c_15 : x1 = (6 : Int32)
  · replace hf := ite_t c_15 hf
    refine lv_tableIn (off := 91) (tgt := 92) hx hb dX5_about_1 (by rw [c_15]; decide) (by rw [c_15]; decide) (by rw [c_15]; decide) (by decide) ?_
    refine lv_aload_n hx hb dX5_about_92 rfl (lv_at hl 0 rfl) ?_
    refine rg_5_1 X hR iX5_about_5 wX5_about_19 dX5_about_93 ?_
    obtain ⟨r_16, hq_17, hf⟩ := bd1_some hf
    refine kVi (id := (20 * 0)) (As := []) (rest := []) X hR hS (zcX1_countFitting l D cy ad ba O S 0 (by decide) _ hq_17) (cwV 0 X.2.2.2.2.2.1 gX5_about_X1_countFitting rfl rfl rfl kdX1_countFitting ⟨(Nat.le_of_ble_eq_true rfl), (Nat.le_of_ble_eq_true rfl)⟩) (te_idc (by decide)) (teE_circ cy ad O S (by decide)) rfl rfl rfl hl.1 (Nat.le_of_ble_eq_true rfl) ⟨(Nat.le_of_ble_eq_true rfl), (Nat.le_of_ble_eq_true rfl)⟩ dX5_about_96 (fun H locs hR hS => ?_)
    exact eIx X hR hS (Option.some.inj hf) (Nat.le_of_ble_eq_true rfl) (Nat.le_of_ble_eq_true rfl) dX5_about_99
  replace hf := ite_f c_15 hf
  refine lv_tableOut (tgt := 100) hx hb dX5_about_1 (te_sw (fun k h1 h2 => ?_)) (by decide) ?_
  · have hk : k = 0 ∨ k = 1 ∨ k = 2 ∨ k = 3 ∨ k = 4 ∨ k = 5 ∨ k = 6 := by omega
    rcases hk with rfl | rfl | rfl | rfl | rfl | rfl | rfl
    · exact lv_neT c_1 (by decide)
    · exact lv_neT c_2 (by decide)
    · exact lv_neT c_5 (by decide)
    · exact lv_neT c_6 (by decide)
    · exact lv_neT c_9 (by decide)
    · exact lv_neT c_12 (by decide)
    · exact lv_neT c_15 (by decide)
  exact te_thr X hN hl0 hR hS hl.1 rfl (by decide +kernel) wX5_about_k101 wX5_about_n101 (text := "what is not 0 to 6") (c0 := 1) (by decide +kernel) aX5_about_105 tx_RX5_101_105_n tx_RX5_101_105_g X.2.2.2.2.2.2.2.2.2.2.1.1 dX5_about_100 dX5_about_103 dX5_about_104 dX5_about_106 dX5_about_109 (Nat.le_of_ble_eq_true rfl) (Nat.le_of_ble_eq_true rfl) (Nat.le_of_ble_eq_true rfl) (Nat.le_of_ble_eq_true rfl) (Nat.le_of_ble_eq_true rfl) (Nat.le_of_ble_eq_true rfl) rfl (Option.some.inj hf)
theorem zcX5_about (l : Launch) (D : va_G) (cy : Nat → ClassId) (ad : Nat → Nat) (ba : Nat → Prop) (O : Int64) (S : teS) (x1 : Int32) (hl0 : l.stackTraces = false) (res : (Nat ⊕ (Int32 × teS))) (hf : fX5_about x1 S = some res) : xQ l yX5_about wsX5_about rmX5_about 1 6 D cy ad ba O S [.ref (ad 360), .int x1] res :=
  te_ofx (by decide) rfl (Nat.le_of_ble_eq_true rfl) (fun p e s m below meth c ls X hN hR hS hl => bX5_about_0 (S := S) (x1 := x1) X hN hl0 _ _ _ hR hS hl hf)
theorem tx_RX5_255_259_n : ∀ w ∈ (vx_atS RX5 259 "java/lang/IndexOutOfBoundsException" ["java/lang/RuntimeException", "java/lang/Exception"]).filter (fun w => !goodWord w), w ∈ [Cond.castable "java/lang/IndexOutOfBoundsException" "java/lang/IndexOutOfBoundsException", .declares (Bundle.initS "java/lang/RuntimeException"), .declares (Bundle.initS "java/lang/Exception"), .declares (Bundle.initS "java/lang/Throwable")] := by decide +kernel
theorem tx_RX5_255_259_g : ∀ w ∈ Cond.classLink RX5 255 "java/lang/IndexOutOfBoundsException" :: Cond.initialized "java/lang/IndexOutOfBoundsException" :: vx_atS RX5 259 "java/lang/IndexOutOfBoundsException" ["java/lang/RuntimeException", "java/lang/Exception"], vx_ot w = true := by decide +kernel
abbrev rmX5_requireMember : Room := { frames := 6, cells := 1, slots := 6, locals := 90 }
theorem kdX5_requireMember : yX5_requireMember.cls = RX5 ∧ yX5_requireMember.cls ≠ "java/lang/invoke/MethodHandle" ∧ yX5_requireMember.cls ≠ "java/lang/invoke/VarHandle" ∧ (parseMethodDescriptor yX5_requireMember.desc).map (fun d => d.parameters.length) = some 1 := by decide +kernel
theorem wX5_requireMember_19 : Cond.fieldLink RX5 19 "TandemExchange" "circle" "LTandemExchange$Circle;" ∈ wsX5_requireMember := by decide +kernel
theorem iX5_requireMember_5 : ∀ w ∈ wsX50, w ∈ wsX5_requireMember := fun _ h => List.mem_cons_of_mem _ (List.mem_append_left _ (List.mem_append_left _ (List.mem_append_right _ h)))
theorem aX5_requireMember_259 : ∀ w ∈ (vx_atS RX5 259 "java/lang/IndexOutOfBoundsException" ["java/lang/RuntimeException", "java/lang/Exception"]).filter goodWord, w ∈ wsX5_requireMember := fun _ h => List.mem_cons_of_mem _ (List.mem_append_right _ h)
theorem wX5_requireMember_k255 : Cond.classLink RX5 255 "java/lang/IndexOutOfBoundsException" ∈ wsX5_requireMember := by decide +kernel
theorem wX5_requireMember_n255 : Cond.initialized "java/lang/IndexOutOfBoundsException" ∈ wsX5_requireMember := by decide +kernel
set_option maxRecDepth 100000 in
set_option maxHeartbeats 4000000 in
theorem bX5_requireMember_0 {p : Program} {l : Launch} {e : Env} {s : State} {m : MethodId} {args : Array Value} {below : List Frame} {meth : Method} {c : Code} {D : va_G} {cy : Nat → ClassId} {ad : Nat → Nat} {ba : Nat → Prop} {O : Int64} {S : teS}  {x1 : Int32} {res : (Nat ⊕ Unit)} (X : teC wsX5_requireMember RX5 cX5_requireMember 2 none D cy ba p s m args meth c) (hN : ∀ x ∈ c.exceptionTable.toList, False) (hl0 : l.stackTraces = false) (H : Heap) (locs : List Loc) (ls : Array Slot) (hR : teR D cy ad ba O S H) (hS : va_S (teA ba) s.heap H locs) (hl : lv_has ls 2 [(0, .ref (ad 360)), (1, .int x1)]) (hf : fX5_requireMember x1 S = some res) : W p l e (headSpec wsX5_requireMember rmX5_requireMember).room s m args below meth c H locs 0 0 (vx_MQ below (va_Qv (fun u => Sum.inr () = res ∧ u = S) (fun u t => teR D cy ad ba O u t.heap) (teA ba)) (teXC D cy ad ba O S (fun c => Sum.inl c = res)) args s 1 6 (teA ba)) (F0 m 0 ls []) := by
  have hx := X.1
  have hb := X.2.1
  have hown := X.2.2.2.2.1
  unfold fX5_requireMember at hf
  refine lv_aload_n hx hb dX5_requireMember_0 rfl (lv_at hl 0 rfl) ?_
  refine rg_5_1 X hR iX5_requireMember_5 wX5_requireMember_19 dX5_requireMember_1 ?_
  refine lv_iload_n hx hb dX5_requireMember_4 rfl (lv_at hl 1 rfl) ?_
  obtain ⟨r_1, hq_2, hf⟩ := bd1_some hf
  refine kVi (id := (20 * 0)) (As := [.int x1]) (rest := []) X hR hS (zcX1_has l D cy ad ba O S 0 x1 (by decide) _ hq_2) (cwV 1 X.2.2.2.2.2.1 gX5_requireMember_X1_has rfl rfl rfl kdX1_has ⟨(Nat.le_of_ble_eq_true rfl), (Nat.le_of_ble_eq_true rfl)⟩) (te_idc (by decide)) (teE_circ cy ad O S (by decide)) rfl rfl rfl hl.1 (Nat.le_of_ble_eq_true rfl) ⟨(Nat.le_of_ble_eq_true rfl), (Nat.le_of_ble_eq_true rfl)⟩ dX5_requireMember_5 (fun H locs hR hS => ?_)
  refine lv_if_ne (tgt := 22) hx hb dX5_requireMember_8 (by decide) (fun c_3 => ?_) (fun c_3 => ?_)
  · replace hf := ite_f c_3 hf
    exact eVx X hR hS ⟨Option.some.inj hf, rfl⟩ (Nat.le_of_ble_eq_true rfl) (Nat.le_of_ble_eq_true rfl) dX5_requireMember_22
  · replace hf := ite_t c_3 hf
    exact te_thrW X hN hl0 hR hS hl.1 rfl (by decide +kernel) wX5_requireMember_k255 wX5_requireMember_n255 (text := "there is no such member") (c0 := 3) (by decide +kernel) aX5_requireMember_259 tx_RX5_255_259_n tx_RX5_255_259_g X.2.2.2.2.2.2.2.2.2.2.1.2.2.1 dX5_requireMember_11 dX5_requireMember_14 dX5_requireMember_15 dX5_requireMember_18 dX5_requireMember_21 (Nat.le_of_ble_eq_true rfl) (Nat.le_of_ble_eq_true rfl) (Nat.le_of_ble_eq_true rfl) (Nat.le_of_ble_eq_true rfl) (Nat.le_of_ble_eq_true rfl) (Nat.le_of_ble_eq_true rfl) rfl (Option.some.inj hf)
theorem zcX5_requireMember (l : Launch) (D : va_G) (cy : Nat → ClassId) (ad : Nat → Nat) (ba : Nat → Prop) (O : Int64) (S : teS) (x1 : Int32) (hl0 : l.stackTraces = false) (res : (Nat ⊕ Unit)) (hf : fX5_requireMember x1 S = some res) : xP l yX5_requireMember wsX5_requireMember rmX5_requireMember 1 6 D cy ad ba O S [.ref (ad 360), .int x1] res :=
  te_ofx (by decide) rfl (Nat.le_of_ble_eq_true rfl) (fun p e s m below meth c ls X hN hR hS hl => bX5_requireMember_0 (S := S) (x1 := x1) X hN hl0 _ _ _ hR hS hl hf)
abbrev rnX5_requireMember : Room := { frames := 1, cells := 0, slots := 0, locals := 21 }
set_option maxRecDepth 100000 in
set_option maxHeartbeats 4000000 in
theorem bnX5_requireMember_0 {p : Program} {l : Launch} {e : Env} {s : State} {m : MethodId} {args : Array Value} {below : List Frame} {meth : Method} {c : Code} {D : va_G} {cy : Nat → ClassId} {ad : Nat → Nat} {ba : Nat → Prop} {O : Int64} {S : teS} {x1 : Int32} (X : teC wsX5_requireMember RX5 cX5_requireMember 2 none D cy ba p s m args meth c) (hN : ∀ x ∈ c.exceptionTable.toList, False) (H : Heap) (locs : List Loc) (ls : Array Slot) (hR : teR D cy ad ba O S H) (hS : va_S (teA ba) s.heap H locs) (hl : lv_has ls 2 [(0, .ref (ad 360)), (1, .int x1)]) (hf : fX5_requireMember x1 S = some (.inr ())) : W p l e (headSpec wsX5_requireMember rnX5_requireMember).room s m args below meth c H locs 0 0 (vx_MQ below (va_Qv (fun u => Sum.inr () = (Sum.inr () : Nat ⊕ Unit) ∧ u = S) (fun u t => teR D cy ad ba O u t.heap) (teA ba)) (teXC D cy ad ba O S (fun c => Sum.inl c = (Sum.inr () : Nat ⊕ Unit))) args s 0 0 (teA ba)) (F0 m 0 ls []) := by
  have hx := X.1
  have hb := X.2.1
  have hown := X.2.2.2.2.1
  unfold fX5_requireMember at hf
  refine lv_aload_n hx hb dX5_requireMember_0 rfl (lv_at hl 0 rfl) ?_
  refine rg_5_1 X hR iX5_requireMember_5 wX5_requireMember_19 dX5_requireMember_1 ?_
  refine lv_iload_n hx hb dX5_requireMember_4 rfl (lv_at hl 1 rfl) ?_
  obtain ⟨r_1, hq_2, hf⟩ := bd1_some hf
  refine kVi (id := (20 * 0)) (As := [.int x1]) (rest := []) X hR hS (zcX1_has l D cy ad ba O S 0 x1 (by decide) _ hq_2) (cwV 1 X.2.2.2.2.2.1 gX5_requireMember_X1_has rfl rfl rfl kdX1_has ⟨(Nat.le_of_ble_eq_true rfl), (Nat.le_of_ble_eq_true rfl)⟩) (te_idc (by decide)) (teE_circ cy ad O S (by decide)) rfl rfl rfl hl.1 (Nat.le_of_ble_eq_true rfl) ⟨(Nat.le_of_ble_eq_true rfl), (Nat.le_of_ble_eq_true rfl)⟩ dX5_requireMember_5 (fun H locs hR hS => ?_)
  refine lv_if_ne (tgt := 22) hx hb dX5_requireMember_8 (by decide) (fun c_3 => ?_) (fun c_3 => ?_)
  · replace hf := ite_f c_3 hf
    exact eVx X hR hS ⟨Option.some.inj hf, rfl⟩ (Nat.le_of_ble_eq_true rfl) (Nat.le_of_ble_eq_true rfl) dX5_requireMember_22
  · replace hf := ite_t c_3 hf
    exact nomatch (Option.some.inj hf)
theorem znX5_requireMember (l : Launch) (D : va_G) (cy : Nat → ClassId) (ad : Nat → Nat) (ba : Nat → Prop) (O : Int64) (S : teS) (x1 : Int32) (hf : fX5_requireMember x1 S = some (.inr ())) : xP l yX5_requireMember wsX5_requireMember rnX5_requireMember 0 0 D cy ad ba O S [.ref (ad 360), .int x1] (.inr ()) :=
  te_ofx (by decide) rfl (Nat.le_of_ble_eq_true rfl) (fun p e s m below meth c ls X hN hR hS hl => bnX5_requireMember_0 (S := S) (x1 := x1) X hN _ _ _ hR hS hl hf)
abbrev rmX5_member : Room := { frames := 7, cells := 1, slots := 6, locals := 112 }
theorem kdX5_member : yX5_member.cls = RX5 ∧ yX5_member.cls ≠ "java/lang/invoke/MethodHandle" ∧ yX5_member.cls ≠ "java/lang/invoke/VarHandle" ∧ (parseMethodDescriptor yX5_member.desc).map (fun d => d.parameters.length) = some 2 := by decide +kernel
theorem wX5_member_19 : Cond.fieldLink RX5 19 "TandemExchange" "circle" "LTandemExchange$Circle;" ∈ wsX5_member := by decide +kernel
theorem iX5_member_5 : ∀ w ∈ wsX50, w ∈ wsX5_member := by decide +kernel
set_option maxRecDepth 100000 in
set_option maxHeartbeats 4000000 in
theorem bX5_member_0 {p : Program} {l : Launch} {e : Env} {s : State} {m : MethodId} {args : Array Value} {below : List Frame} {meth : Method} {c : Code} {D : va_G} {cy : Nat → ClassId} {ad : Nat → Nat} {ba : Nat → Prop} {O : Int64} {S : teS}  {x1 : Int32} {x2 : Int32} {res : (Nat ⊕ (Int32 × teS))} (X : teC wsX5_member RX5 cX5_member 3 (some .int) D cy ba p s m args meth c) (hN : ∀ x ∈ c.exceptionTable.toList, False) (hl0 : l.stackTraces = false) (H : Heap) (locs : List Loc) (ls : Array Slot) (hR : teR D cy ad ba O S H) (hS : va_S (teA ba) s.heap H locs) (hl : lv_has ls 3 [(0, .ref (ad 360)), (1, .int x1), (2, .int x2)]) (hf : fX5_member x1 x2 S = some res) : W p l e (headSpec wsX5_member rmX5_member).room s m args below meth c H locs 0 0 (vx_MQ below (va_Qi (fun a u => Sum.inr (a, u) = res) (fun u t => teR D cy ad ba O u t.heap) (teA ba)) (teXC D cy ad ba O S (fun c => Sum.inl c = res)) args s 1 6 (teA ba)) (F0 m 0 ls []) := by
  have hx := X.1
  have hb := X.2.1
  have hown := X.2.2.2.2.1
  unfold fX5_member at hf
  refine lv_aload_n hx hb dX5_member_0 rfl (lv_at hl 0 rfl) ?_
  refine lv_iload_n hx hb dX5_member_1 rfl (lv_at hl 1 rfl) ?_
  rcases bx1_some hf with ⟨e_1, hq_2, hf⟩ | ⟨⟨⟩, hq_2, hf⟩
  · exact kVxl (id := 360) (As := [.int x1]) (rest := []) X hN hR hS (zcX5_requireMember l D cy ad ba O S x1 hl0 _ hq_2) (cwV 1 X.2.2.2.2.2.1 gX5_member_X5_requireMember rfl rfl rfl kdX5_requireMember ⟨(Nat.le_of_ble_eq_true rfl), (Nat.le_of_ble_eq_true rfl)⟩) (by decide) rfl rfl rfl rfl hl.1 (Nat.le_of_ble_eq_true rfl) ⟨(Nat.le_of_ble_eq_true rfl), (Nat.le_of_ble_eq_true rfl)⟩ (Nat.le_of_ble_eq_true rfl) (Nat.le_of_ble_eq_true rfl) dX5_member_2 hf.symm
  refine kVxr (id := 360) (As := [.int x1]) (rest := []) X hR hS (znX5_requireMember l D cy ad ba O S x1 hq_2) (cwV 1 X.2.2.2.2.2.1 gX5_member_X5_requireMember rfl rfl rfl kdX5_requireMember ⟨(Nat.le_of_ble_eq_true rfl), (Nat.le_of_ble_eq_true rfl)⟩) (by decide) rfl rfl rfl rfl hl.1 (Nat.le_of_ble_eq_true rfl) ⟨(Nat.le_of_ble_eq_true rfl), (Nat.le_of_ble_eq_true rfl)⟩ dX5_member_2 (fun H locs hR hS => ?_)
  refine lv_iload_n hx hb dX5_member_5 rfl (lv_at hl 2 rfl) ?_
  refine lv_iconst (v := (0 : Int32)) hx hb dX5_member_6 (by decide) ?_
  refine lv_bipush (v := (10 : Int32)) hx hb dX5_member_7 (by decide) ?_
  rcases bx1_some hf with ⟨e_3, hq_4, hf⟩ | ⟨⟨⟩, hq_4, hf⟩
  · exact kSxl (As := [.int x2, .int (0 : Int32), .int (10 : Int32)]) (rest := []) X hN hR hS (zcX5_requireRange l D cy ad ba O S x2 (0 : Int32) (10 : Int32) hl0 _ hq_4) (va_cwS 3 X.2.2.2.2.2.1 gX5_member_X5_requireRange rfl rfl rfl kdX5_requireRange.2 ⟨(Nat.le_of_ble_eq_true rfl), (Nat.le_of_ble_eq_true rfl)⟩)  rfl rfl hl.1 (Nat.le_of_ble_eq_true rfl) ⟨(Nat.le_of_ble_eq_true rfl), (Nat.le_of_ble_eq_true rfl)⟩ (Nat.le_of_ble_eq_true rfl) (Nat.le_of_ble_eq_true rfl) dX5_member_9 hf.symm
  refine kSxr (As := [.int x2, .int (0 : Int32), .int (10 : Int32)]) (rest := []) X hR hS (znX5_requireRange l D cy ad ba O S x2 (0 : Int32) (10 : Int32) hq_4) (va_cwS 3 X.2.2.2.2.2.1 gX5_member_X5_requireRange rfl rfl rfl kdX5_requireRange.2 ⟨(Nat.le_of_ble_eq_true rfl), (Nat.le_of_ble_eq_true rfl)⟩)  rfl rfl hl.1 (Nat.le_of_ble_eq_true rfl) ⟨(Nat.le_of_ble_eq_true rfl), (Nat.le_of_ble_eq_true rfl)⟩ dX5_member_9 (fun H locs hR hS => ?_)
  refine lv_aload_n hx hb dX5_member_12 rfl (lv_at hl 0 rfl) ?_
  refine rg_5_1 X hR iX5_member_5 wX5_member_19 dX5_member_13 ?_
  refine lv_iload_n hx hb dX5_member_16 rfl (lv_at hl 1 rfl) ?_
  refine lv_iload_n hx hb dX5_member_17 rfl (lv_at hl 2 rfl) ?_
  obtain ⟨r_5, hq_6, hf⟩ := bd1_some hf
  refine kVi (id := (20 * 0)) (As := [.int x1, .int x2]) (rest := []) X hR hS (zcX1_numberOf l D cy ad ba O S 0 x1 x2 (by decide) _ hq_6) (cwV 2 X.2.2.2.2.2.1 gX5_member_X1_numberOf rfl rfl rfl kdX1_numberOf ⟨(Nat.le_of_ble_eq_true rfl), (Nat.le_of_ble_eq_true rfl)⟩) (te_idc (by decide)) (teE_circ cy ad O S (by decide)) rfl rfl rfl hl.1 (Nat.le_of_ble_eq_true rfl) ⟨(Nat.le_of_ble_eq_true rfl), (Nat.le_of_ble_eq_true rfl)⟩ dX5_member_18 (fun H locs hR hS => ?_)
  exact eIx X hR hS (Option.some.inj hf) (Nat.le_of_ble_eq_true rfl) (Nat.le_of_ble_eq_true rfl) dX5_member_21
theorem zcX5_member (l : Launch) (D : va_G) (cy : Nat → ClassId) (ad : Nat → Nat) (ba : Nat → Prop) (O : Int64) (S : teS) (x1 : Int32) (x2 : Int32) (hl0 : l.stackTraces = false) (res : (Nat ⊕ (Int32 × teS))) (hf : fX5_member x1 x2 S = some res) : xQ l yX5_member wsX5_member rmX5_member 1 6 D cy ad ba O S [.ref (ad 360), .int x1, .int x2] res :=
  te_ofx (by decide) rfl (Nat.le_of_ble_eq_true rfl) (fun p e s m below meth c ls X hN hR hS hl => bX5_member_0 (S := S) (x1 := x1) (x2 := x2) X hN hl0 _ _ _ hR hS hl hf)
abbrev rmX5_requireTwoMembers : Room := { frames := 7, cells := 1, slots := 6, locals := 111 }
theorem kdX5_requireTwoMembers : yX5_requireTwoMembers.cls = RX5 ∧ yX5_requireTwoMembers.cls ≠ "java/lang/invoke/MethodHandle" ∧ yX5_requireTwoMembers.cls ≠ "java/lang/invoke/VarHandle" ∧ (parseMethodDescriptor yX5_requireTwoMembers.desc).map (fun d => d.parameters.length) = some 2 := by decide +kernel
theorem aX5_requireTwoMembers_105 : ∀ w ∈ (vx_atS RX5 105 "java/lang/IllegalArgumentException" ["java/lang/RuntimeException", "java/lang/Exception"]).filter goodWord, w ∈ wsX5_requireTwoMembers := fun _ h => List.mem_cons_of_mem _ (List.mem_append_left _ (List.mem_append_right _ h))
theorem wX5_requireTwoMembers_k101 : Cond.classLink RX5 101 "java/lang/IllegalArgumentException" ∈ wsX5_requireTwoMembers := by decide +kernel
theorem wX5_requireTwoMembers_n101 : Cond.initialized "java/lang/IllegalArgumentException" ∈ wsX5_requireTwoMembers := by decide +kernel
set_option maxRecDepth 100000 in
set_option maxHeartbeats 4000000 in
theorem bX5_requireTwoMembers_0 {p : Program} {l : Launch} {e : Env} {s : State} {m : MethodId} {args : Array Value} {below : List Frame} {meth : Method} {c : Code} {D : va_G} {cy : Nat → ClassId} {ad : Nat → Nat} {ba : Nat → Prop} {O : Int64} {S : teS}  {x1 : Int32} {x2 : Int32} {res : (Nat ⊕ Unit)} (X : teC wsX5_requireTwoMembers RX5 cX5_requireTwoMembers 3 none D cy ba p s m args meth c) (hN : ∀ x ∈ c.exceptionTable.toList, False) (hl0 : l.stackTraces = false) (H : Heap) (locs : List Loc) (ls : Array Slot) (hR : teR D cy ad ba O S H) (hS : va_S (teA ba) s.heap H locs) (hl : lv_has ls 3 [(0, .ref (ad 360)), (1, .int x1), (2, .int x2)]) (hf : fX5_requireTwoMembers x1 x2 S = some res) : W p l e (headSpec wsX5_requireTwoMembers rmX5_requireTwoMembers).room s m args below meth c H locs 0 0 (vx_MQ below (va_Qv (fun u => Sum.inr () = res ∧ u = S) (fun u t => teR D cy ad ba O u t.heap) (teA ba)) (teXC D cy ad ba O S (fun c => Sum.inl c = res)) args s 1 6 (teA ba)) (F0 m 0 ls []) := by
  have hx := X.1
  have hb := X.2.1
  have hown := X.2.2.2.2.1
  unfold fX5_requireTwoMembers at hf
  refine lv_aload_n hx hb dX5_requireTwoMembers_0 rfl (lv_at hl 0 rfl) ?_
  refine lv_iload_n hx hb dX5_requireTwoMembers_1 rfl (lv_at hl 1 rfl) ?_
  rcases bx1_some hf with ⟨e_1, hq_2, hf⟩ | ⟨⟨⟩, hq_2, hf⟩
  · exact kVxl (id := 360) (As := [.int x1]) (rest := []) X hN hR hS (zcX5_requireMember l D cy ad ba O S x1 hl0 _ hq_2) (cwV 1 X.2.2.2.2.2.1 gX5_requireTwoMembers_X5_requireMember rfl rfl rfl kdX5_requireMember ⟨(Nat.le_of_ble_eq_true rfl), (Nat.le_of_ble_eq_true rfl)⟩) (by decide) rfl rfl rfl rfl hl.1 (Nat.le_of_ble_eq_true rfl) ⟨(Nat.le_of_ble_eq_true rfl), (Nat.le_of_ble_eq_true rfl)⟩ (Nat.le_of_ble_eq_true rfl) (Nat.le_of_ble_eq_true rfl) dX5_requireTwoMembers_2 hf.symm
  refine kVxr (id := 360) (As := [.int x1]) (rest := []) X hR hS (znX5_requireMember l D cy ad ba O S x1 hq_2) (cwV 1 X.2.2.2.2.2.1 gX5_requireTwoMembers_X5_requireMember rfl rfl rfl kdX5_requireMember ⟨(Nat.le_of_ble_eq_true rfl), (Nat.le_of_ble_eq_true rfl)⟩) (by decide) rfl rfl rfl rfl hl.1 (Nat.le_of_ble_eq_true rfl) ⟨(Nat.le_of_ble_eq_true rfl), (Nat.le_of_ble_eq_true rfl)⟩ dX5_requireTwoMembers_2 (fun H locs hR hS => ?_)
  refine lv_aload_n hx hb dX5_requireTwoMembers_5 rfl (lv_at hl 0 rfl) ?_
  refine lv_iload_n hx hb dX5_requireTwoMembers_6 rfl (lv_at hl 2 rfl) ?_
  rcases bx1_some hf with ⟨e_3, hq_4, hf⟩ | ⟨⟨⟩, hq_4, hf⟩
  · exact kVxl (id := 360) (As := [.int x2]) (rest := []) X hN hR hS (zcX5_requireMember l D cy ad ba O S x2 hl0 _ hq_4) (cwV 1 X.2.2.2.2.2.1 gX5_requireTwoMembers_X5_requireMember rfl rfl rfl kdX5_requireMember ⟨(Nat.le_of_ble_eq_true rfl), (Nat.le_of_ble_eq_true rfl)⟩) (by decide) rfl rfl rfl rfl hl.1 (Nat.le_of_ble_eq_true rfl) ⟨(Nat.le_of_ble_eq_true rfl), (Nat.le_of_ble_eq_true rfl)⟩ (Nat.le_of_ble_eq_true rfl) (Nat.le_of_ble_eq_true rfl) dX5_requireTwoMembers_7 hf.symm
  refine kVxr (id := 360) (As := [.int x2]) (rest := []) X hR hS (znX5_requireMember l D cy ad ba O S x2 hq_4) (cwV 1 X.2.2.2.2.2.1 gX5_requireTwoMembers_X5_requireMember rfl rfl rfl kdX5_requireMember ⟨(Nat.le_of_ble_eq_true rfl), (Nat.le_of_ble_eq_true rfl)⟩) (by decide) rfl rfl rfl rfl hl.1 (Nat.le_of_ble_eq_true rfl) ⟨(Nat.le_of_ble_eq_true rfl), (Nat.le_of_ble_eq_true rfl)⟩ dX5_requireTwoMembers_7 (fun H locs hR hS => ?_)
  refine lv_iload_n hx hb dX5_requireTwoMembers_10 rfl (lv_at hl 1 rfl) ?_
  refine lv_iload_n hx hb dX5_requireTwoMembers_11 rfl (lv_at hl 2 rfl) ?_
  refine lv_icmp_ne (tgt := 26) hx hb dX5_requireTwoMembers_12 (by decide) (fun c_5 => ?_) (fun c_5 => ?_)
  · replace hf := ite_f c_5 hf
    exact eVx X hR hS ⟨Option.some.inj hf, rfl⟩ (Nat.le_of_ble_eq_true rfl) (Nat.le_of_ble_eq_true rfl) dX5_requireTwoMembers_26
  · replace hf := ite_t c_5 hf
    exact te_thrW X hN hl0 hR hS hl.1 rfl (by decide +kernel) wX5_requireTwoMembers_k101 wX5_requireTwoMembers_n101 (text := "the members are the same") (c0 := 1) (by decide +kernel) aX5_requireTwoMembers_105 tx_RX5_101_105_n tx_RX5_101_105_g X.2.2.2.2.2.2.2.2.2.2.1.1 dX5_requireTwoMembers_15 dX5_requireTwoMembers_18 dX5_requireTwoMembers_19 dX5_requireTwoMembers_22 dX5_requireTwoMembers_25 (Nat.le_of_ble_eq_true rfl) (Nat.le_of_ble_eq_true rfl) (Nat.le_of_ble_eq_true rfl) (Nat.le_of_ble_eq_true rfl) (Nat.le_of_ble_eq_true rfl) (Nat.le_of_ble_eq_true rfl) rfl (Option.some.inj hf)
theorem zcX5_requireTwoMembers (l : Launch) (D : va_G) (cy : Nat → ClassId) (ad : Nat → Nat) (ba : Nat → Prop) (O : Int64) (S : teS) (x1 : Int32) (x2 : Int32) (hl0 : l.stackTraces = false) (res : (Nat ⊕ Unit)) (hf : fX5_requireTwoMembers x1 x2 S = some res) : xP l yX5_requireTwoMembers wsX5_requireTwoMembers rmX5_requireTwoMembers 1 6 D cy ad ba O S [.ref (ad 360), .int x1, .int x2] res :=
  te_ofx (by decide) rfl (Nat.le_of_ble_eq_true rfl) (fun p e s m below meth c ls X hN hR hS hl => bX5_requireTwoMembers_0 (S := S) (x1 := x1) (x2 := x2) X hN hl0 _ _ _ hR hS hl hf)
abbrev rnX5_requireTwoMembers : Room := { frames := 7, cells := 0, slots := 0, locals := 111 }
set_option maxRecDepth 100000 in
set_option maxHeartbeats 4000000 in
theorem bnX5_requireTwoMembers_0 {p : Program} {l : Launch} {e : Env} {s : State} {m : MethodId} {args : Array Value} {below : List Frame} {meth : Method} {c : Code} {D : va_G} {cy : Nat → ClassId} {ad : Nat → Nat} {ba : Nat → Prop} {O : Int64} {S : teS} {x1 : Int32} {x2 : Int32} (X : teC wsX5_requireTwoMembers RX5 cX5_requireTwoMembers 3 none D cy ba p s m args meth c) (hN : ∀ x ∈ c.exceptionTable.toList, False) (H : Heap) (locs : List Loc) (ls : Array Slot) (hR : teR D cy ad ba O S H) (hS : va_S (teA ba) s.heap H locs) (hl : lv_has ls 3 [(0, .ref (ad 360)), (1, .int x1), (2, .int x2)]) (hf : fX5_requireTwoMembers x1 x2 S = some (.inr ())) : W p l e (headSpec wsX5_requireTwoMembers rnX5_requireTwoMembers).room s m args below meth c H locs 0 0 (vx_MQ below (va_Qv (fun u => Sum.inr () = (Sum.inr () : Nat ⊕ Unit) ∧ u = S) (fun u t => teR D cy ad ba O u t.heap) (teA ba)) (teXC D cy ad ba O S (fun c => Sum.inl c = (Sum.inr () : Nat ⊕ Unit))) args s 0 0 (teA ba)) (F0 m 0 ls []) := by
  have hx := X.1
  have hb := X.2.1
  have hown := X.2.2.2.2.1
  unfold fX5_requireTwoMembers at hf
  refine lv_aload_n hx hb dX5_requireTwoMembers_0 rfl (lv_at hl 0 rfl) ?_
  refine lv_iload_n hx hb dX5_requireTwoMembers_1 rfl (lv_at hl 1 rfl) ?_
  rcases bx1_some hf with ⟨e_1, hq_2, hf⟩ | ⟨⟨⟩, hq_2, hf⟩
  · exact nomatch hf
  refine kVxr (id := 360) (As := [.int x1]) (rest := []) X hR hS (znX5_requireMember l D cy ad ba O S x1 hq_2) (cwV 1 X.2.2.2.2.2.1 gX5_requireTwoMembers_X5_requireMember rfl rfl rfl kdX5_requireMember ⟨(Nat.le_of_ble_eq_true rfl), (Nat.le_of_ble_eq_true rfl)⟩) (by decide) rfl rfl rfl rfl hl.1 (Nat.le_of_ble_eq_true rfl) ⟨(Nat.le_of_ble_eq_true rfl), (Nat.le_of_ble_eq_true rfl)⟩ dX5_requireTwoMembers_2 (fun H locs hR hS => ?_)
  refine lv_aload_n hx hb dX5_requireTwoMembers_5 rfl (lv_at hl 0 rfl) ?_
  refine lv_iload_n hx hb dX5_requireTwoMembers_6 rfl (lv_at hl 2 rfl) ?_
  rcases bx1_some hf with ⟨e_3, hq_4, hf⟩ | ⟨⟨⟩, hq_4, hf⟩
  · exact nomatch hf
  refine kVxr (id := 360) (As := [.int x2]) (rest := []) X hR hS (znX5_requireMember l D cy ad ba O S x2 hq_4) (cwV 1 X.2.2.2.2.2.1 gX5_requireTwoMembers_X5_requireMember rfl rfl rfl kdX5_requireMember ⟨(Nat.le_of_ble_eq_true rfl), (Nat.le_of_ble_eq_true rfl)⟩) (by decide) rfl rfl rfl rfl hl.1 (Nat.le_of_ble_eq_true rfl) ⟨(Nat.le_of_ble_eq_true rfl), (Nat.le_of_ble_eq_true rfl)⟩ dX5_requireTwoMembers_7 (fun H locs hR hS => ?_)
  refine lv_iload_n hx hb dX5_requireTwoMembers_10 rfl (lv_at hl 1 rfl) ?_
  refine lv_iload_n hx hb dX5_requireTwoMembers_11 rfl (lv_at hl 2 rfl) ?_
  refine lv_icmp_ne (tgt := 26) hx hb dX5_requireTwoMembers_12 (by decide) (fun c_5 => ?_) (fun c_5 => ?_)
  · replace hf := ite_f c_5 hf
    exact eVx X hR hS ⟨Option.some.inj hf, rfl⟩ (Nat.le_of_ble_eq_true rfl) (Nat.le_of_ble_eq_true rfl) dX5_requireTwoMembers_26
  · replace hf := ite_t c_5 hf
    exact nomatch (Option.some.inj hf)
theorem znX5_requireTwoMembers (l : Launch) (D : va_G) (cy : Nat → ClassId) (ad : Nat → Nat) (ba : Nat → Prop) (O : Int64) (S : teS) (x1 : Int32) (x2 : Int32) (hf : fX5_requireTwoMembers x1 x2 S = some (.inr ())) : xP l yX5_requireTwoMembers wsX5_requireTwoMembers rnX5_requireTwoMembers 0 0 D cy ad ba O S [.ref (ad 360), .int x1, .int x2] (.inr ()) :=
  te_ofx (by decide) rfl (Nat.le_of_ble_eq_true rfl) (fun p e s m below meth c ls X hN hR hS hl => bnX5_requireTwoMembers_0 (S := S) (x1 := x1) (x2 := x2) X hN _ _ _ hR hS hl hf)
abbrev rmX5_both : Room := { frames := 8, cells := 1, slots := 6, locals := 133 }
theorem kdX5_both : yX5_both.cls = RX5 ∧ yX5_both.cls ≠ "java/lang/invoke/MethodHandle" ∧ yX5_both.cls ≠ "java/lang/invoke/VarHandle" ∧ (parseMethodDescriptor yX5_both.desc).map (fun d => d.parameters.length) = some 3 := by decide +kernel
theorem wX5_both_19 : Cond.fieldLink RX5 19 "TandemExchange" "circle" "LTandemExchange$Circle;" ∈ wsX5_both := by decide +kernel
theorem iX5_both_5 : ∀ w ∈ wsX50, w ∈ wsX5_both := by decide +kernel
theorem aX5_both_105 : ∀ w ∈ (vx_atS RX5 105 "java/lang/IllegalArgumentException" ["java/lang/RuntimeException", "java/lang/Exception"]).filter goodWord, w ∈ wsX5_both := by decide +kernel
theorem wX5_both_k101 : Cond.classLink RX5 101 "java/lang/IllegalArgumentException" ∈ wsX5_both := by decide +kernel
theorem wX5_both_n101 : Cond.initialized "java/lang/IllegalArgumentException" ∈ wsX5_both := by decide +kernel
set_option maxRecDepth 100000 in
set_option maxHeartbeats 4000000 in
theorem bX5_both_0 {p : Program} {l : Launch} {e : Env} {s : State} {m : MethodId} {args : Array Value} {below : List Frame} {meth : Method} {c : Code} {D : va_G} {cy : Nat → ClassId} {ad : Nat → Nat} {ba : Nat → Prop} {O : Int64} {S : teS}  {x1 : Int32} {x2 : Int32} {x3 : Int32} {res : (Nat ⊕ (Int32 × teS))} (X : teC wsX5_both RX5 cX5_both 4 (some .int) D cy ba p s m args meth c) (hN : ∀ x ∈ c.exceptionTable.toList, False) (hl0 : l.stackTraces = false) (H : Heap) (locs : List Loc) (ls : Array Slot) (hR : teR D cy ad ba O S H) (hS : va_S (teA ba) s.heap H locs) (hl : lv_has ls 4 [(0, .ref (ad 360)), (1, .int x1), (2, .int x2), (3, .int x3)]) (hf : fX5_both x1 x2 x3 S = some res) : W p l e (headSpec wsX5_both rmX5_both).room s m args below meth c H locs 0 0 (vx_MQ below (va_Qi (fun a u => Sum.inr (a, u) = res) (fun u t => teR D cy ad ba O u t.heap) (teA ba)) (teXC D cy ad ba O S (fun c => Sum.inl c = res)) args s 1 6 (teA ba)) (F0 m 0 ls []) := by
  have hx := X.1
  have hb := X.2.1
  have hown := X.2.2.2.2.1
  unfold fX5_both at hf
  refine lv_aload_n hx hb dX5_both_0 rfl (lv_at hl 0 rfl) ?_
  refine lv_iload_n hx hb dX5_both_1 rfl (lv_at hl 1 rfl) ?_
  refine lv_iload_n hx hb dX5_both_2 rfl (lv_at hl 2 rfl) ?_
  rcases bx1_some hf with ⟨e_1, hq_2, hf⟩ | ⟨⟨⟩, hq_2, hf⟩
  · exact kVxl (id := 360) (As := [.int x1, .int x2]) (rest := []) X hN hR hS (zcX5_requireTwoMembers l D cy ad ba O S x1 x2 hl0 _ hq_2) (cwV 2 X.2.2.2.2.2.1 gX5_both_X5_requireTwoMembers rfl rfl rfl kdX5_requireTwoMembers ⟨(Nat.le_of_ble_eq_true rfl), (Nat.le_of_ble_eq_true rfl)⟩) (by decide) rfl rfl rfl rfl hl.1 (Nat.le_of_ble_eq_true rfl) ⟨(Nat.le_of_ble_eq_true rfl), (Nat.le_of_ble_eq_true rfl)⟩ (Nat.le_of_ble_eq_true rfl) (Nat.le_of_ble_eq_true rfl) dX5_both_3 hf.symm
  refine kVxr (id := 360) (As := [.int x1, .int x2]) (rest := []) X hR hS (znX5_requireTwoMembers l D cy ad ba O S x1 x2 hq_2) (cwV 2 X.2.2.2.2.2.1 gX5_both_X5_requireTwoMembers rfl rfl rfl kdX5_requireTwoMembers ⟨(Nat.le_of_ble_eq_true rfl), (Nat.le_of_ble_eq_true rfl)⟩) (by decide) rfl rfl rfl rfl hl.1 (Nat.le_of_ble_eq_true rfl) ⟨(Nat.le_of_ble_eq_true rfl), (Nat.le_of_ble_eq_true rfl)⟩ dX5_both_3 (fun H locs hR hS => ?_)
  refine lv_iload_n hx hb dX5_both_6 rfl (lv_at hl 3 rfl) ?_
  by_cases c_3 : x3 = (0 : Int32)
  · replace hf := ite_t c_3 hf
    refine lv_tableIn (off := 29) (tgt := 36) hx hb dX5_both_7 (by rw [c_3]; decide) (by rw [c_3]; decide) (by rw [c_3]; decide) (by decide) ?_
    refine lv_aload_n hx hb dX5_both_36 rfl (lv_at hl 0 rfl) ?_
    refine rg_5_1 X hR iX5_both_5 wX5_both_19 dX5_both_37 ?_
    refine lv_iload_n hx hb dX5_both_40 rfl (lv_at hl 1 rfl) ?_
    refine lv_iload_n hx hb dX5_both_41 rfl (lv_at hl 2 rfl) ?_
    obtain ⟨r_4, hq_5, hf⟩ := bd1_some hf
    refine kVi (id := (20 * 0)) (As := [.int x1, .int x2]) (rest := []) X hR hS (zcX1_score l D cy ad ba O S 0 x1 x2 (by decide) _ hq_5) (cwV 2 X.2.2.2.2.2.1 gX5_both_X1_score rfl rfl rfl kdX1_score ⟨(Nat.le_of_ble_eq_true rfl), (Nat.le_of_ble_eq_true rfl)⟩) (te_idc (by decide)) (teE_circ cy ad O S (by decide)) rfl rfl rfl hl.1 (Nat.le_of_ble_eq_true rfl) ⟨(Nat.le_of_ble_eq_true rfl), (Nat.le_of_ble_eq_true rfl)⟩ dX5_both_42 (fun H locs hR hS => ?_)
    exact eIx X hR hS (Option.some.inj hf) (Nat.le_of_ble_eq_true rfl) (Nat.le_of_ble_eq_true rfl) dX5_both_45
  replace hf := ite_f c_3 hf
  by_cases c_6 : x3 = (1 : Int32)
  · replace hf := ite_t c_6 hf
    refine lv_tableIn (off := 39) (tgt := 46) hx hb dX5_both_7 (by rw [c_6]; decide) (by rw [c_6]; decide) (by rw [c_6]; decide) (by decide) ?_
    refine lv_aload_n hx hb dX5_both_46 rfl (lv_at hl 0 rfl) ?_
    refine rg_5_1 X hR iX5_both_5 wX5_both_19 dX5_both_47 ?_
    refine lv_iload_n hx hb dX5_both_50 rfl (lv_at hl 1 rfl) ?_
    refine lv_iload_n hx hb dX5_both_51 rfl (lv_at hl 2 rfl) ?_
    obtain ⟨r_7, hq_8, hf⟩ := bd1_some hf
    refine kVi (id := (20 * 0)) (As := [.int x1, .int x2]) (rest := []) X hR hS (zcX1_value l D cy ad ba O S 0 x1 x2 (by decide) _ hq_8) (cwV 2 X.2.2.2.2.2.1 gX5_both_X1_value rfl rfl rfl kdX1_value ⟨(Nat.le_of_ble_eq_true rfl), (Nat.le_of_ble_eq_true rfl)⟩) (te_idc (by decide)) (teE_circ cy ad O S (by decide)) rfl rfl rfl hl.1 (Nat.le_of_ble_eq_true rfl) ⟨(Nat.le_of_ble_eq_true rfl), (Nat.le_of_ble_eq_true rfl)⟩ dX5_both_52 (fun H locs hR hS => ?_)
    exact eIx X hR hS (Option.some.inj hf) (Nat.le_of_ble_eq_true rfl) (Nat.le_of_ble_eq_true rfl) dX5_both_55
  replace hf := ite_f c_6 hf
  by_cases c_9 : x3 = (2 : Int32)
  · replace hf := ite_t c_9 hf
    refine lv_tableIn (off := 49) (tgt := 56) hx hb dX5_both_7 (by rw [c_9]; decide) (by rw [c_9]; decide) (by rw [c_9]; decide) (by decide) ?_
    refine lv_aload_n hx hb dX5_both_56 rfl (lv_at hl 0 rfl) ?_
    refine rg_5_1 X hR iX5_both_5 wX5_both_19 dX5_both_57 ?_
    refine lv_iload_n hx hb dX5_both_60 rfl (lv_at hl 1 rfl) ?_
    refine lv_iload_n hx hb dX5_both_61 rfl (lv_at hl 2 rfl) ?_
    obtain ⟨r_10, hq_11, hf⟩ := bd1_some hf
    refine kVi (id := (20 * 0)) (As := [.int x1, .int x2]) (rest := []) X hR hS (zcX1_fit l D cy ad ba O S 0 x1 x2 (by decide) _ hq_11) (cwV 2 X.2.2.2.2.2.1 gX5_both_X1_fit rfl rfl rfl kdX1_fit ⟨(Nat.le_of_ble_eq_true rfl), (Nat.le_of_ble_eq_true rfl)⟩) (te_idc (by decide)) (teE_circ cy ad O S (by decide)) rfl rfl rfl hl.1 (Nat.le_of_ble_eq_true rfl) ⟨(Nat.le_of_ble_eq_true rfl), (Nat.le_of_ble_eq_true rfl)⟩ dX5_both_62 (fun H locs hR hS => ?_)
    refine lv_if_eq (tgt := 72) hx hb dX5_both_65 (by decide) (fun c_12 => ?_) (fun c_12 => ?_)
    · replace hf := ite_t c_12 hf
      refine lv_iconst (v := (0 : Int32)) hx hb dX5_both_72 (by decide) ?_
      exact eIx X hR hS (Option.some.inj hf) (Nat.le_of_ble_eq_true rfl) (Nat.le_of_ble_eq_true rfl) dX5_both_73
    · replace hf := ite_f c_12 hf
      refine lv_iconst (v := (1 : Int32)) hx hb dX5_both_68 (by decide) ?_
      refine lv_goto (tgt := 73) hx hb dX5_both_69 (by decide) ?_
      exact eIx X hR hS (Option.some.inj hf) (Nat.le_of_ble_eq_true rfl) (Nat.le_of_ble_eq_true rfl) dX5_both_73
  replace hf := ite_f c_9 hf
  by_cases c_13 : x3 = (3 : Int32)
  · replace hf := ite_t c_13 hf
    refine lv_tableIn (off := 67) (tgt := 74) hx hb dX5_both_7 (by rw [c_13]; decide) (by rw [c_13]; decide) (by rw [c_13]; decide) (by decide) ?_
    refine lv_aload_n hx hb dX5_both_74 rfl (lv_at hl 0 rfl) ?_
    refine rg_5_1 X hR iX5_both_5 wX5_both_19 dX5_both_75 ?_
    refine lv_iload_n hx hb dX5_both_78 rfl (lv_at hl 1 rfl) ?_
    refine lv_iload_n hx hb dX5_both_79 rfl (lv_at hl 2 rfl) ?_
    obtain ⟨r_14, hq_15, hf⟩ := bd1_some hf
    refine kVi (id := (20 * 0)) (As := [.int x1, .int x2]) (rest := []) X hR hS (zcX1_block l D cy ad ba O S 0 x1 x2 (by decide) _ hq_15) (cwV 2 X.2.2.2.2.2.1 gX5_both_X1_block rfl rfl rfl kdX1_block ⟨(Nat.le_of_ble_eq_true rfl), (Nat.le_of_ble_eq_true rfl)⟩) (te_idc (by decide)) (teE_circ cy ad O S (by decide)) rfl rfl rfl hl.1 (Nat.le_of_ble_eq_true rfl) ⟨(Nat.le_of_ble_eq_true rfl), (Nat.le_of_ble_eq_true rfl)⟩ dX5_both_80 (fun H locs hR hS => ?_)
    refine lv_if_eq (tgt := 90) hx hb dX5_both_83 (by decide) (fun c_16 => ?_) (fun c_16 => ?_)
    · replace hf := ite_t c_16 hf
      refine lv_iconst (v := (0 : Int32)) hx hb dX5_both_90 (by decide) ?_
      exact eIx X hR hS (Option.some.inj hf) (Nat.le_of_ble_eq_true rfl) (Nat.le_of_ble_eq_true rfl) dX5_both_91
    · replace hf := ite_f c_16 hf
      refine lv_iconst (v := (1 : Int32)) hx hb dX5_both_86 (by decide) ?_
      refine lv_goto (tgt := 91) hx hb dX5_both_87 (by decide) ?_
      exact eIx X hR hS (Option.some.inj hf) (Nat.le_of_ble_eq_true rfl) (Nat.le_of_ble_eq_true rfl) dX5_both_91
  replace hf := ite_f c_13 hf
  refine lv_tableOut (tgt := 92) hx hb dX5_both_7 (te_sw (fun k h1 h2 => ?_)) (by decide) ?_
  · have hk : k = 0 ∨ k = 1 ∨ k = 2 ∨ k = 3 := by omega
    rcases hk with rfl | rfl | rfl | rfl
    · exact lv_neT c_3 (by decide)
    · exact lv_neT c_6 (by decide)
    · exact lv_neT c_9 (by decide)
    · exact lv_neT c_13 (by decide)
  exact te_thr X hN hl0 hR hS hl.1 rfl (by decide +kernel) wX5_both_k101 wX5_both_n101 (text := "what is not 0 to 3") (c0 := 1) (by decide +kernel) aX5_both_105 tx_RX5_101_105_n tx_RX5_101_105_g X.2.2.2.2.2.2.2.2.2.2.1.1 dX5_both_92 dX5_both_95 dX5_both_96 dX5_both_98 dX5_both_101 (Nat.le_of_ble_eq_true rfl) (Nat.le_of_ble_eq_true rfl) (Nat.le_of_ble_eq_true rfl) (Nat.le_of_ble_eq_true rfl) (Nat.le_of_ble_eq_true rfl) (Nat.le_of_ble_eq_true rfl) rfl (Option.some.inj hf)
theorem zcX5_both (l : Launch) (D : va_G) (cy : Nat → ClassId) (ad : Nat → Nat) (ba : Nat → Prop) (O : Int64) (S : teS) (x1 : Int32) (x2 : Int32) (x3 : Int32) (hl0 : l.stackTraces = false) (res : (Nat ⊕ (Int32 × teS))) (hf : fX5_both x1 x2 x3 S = some res) : xQ l yX5_both wsX5_both rmX5_both 1 6 D cy ad ba O S [.ref (ad 360), .int x1, .int x2, .int x3] res :=
  te_ofx (by decide) rfl (Nat.le_of_ble_eq_true rfl) (fun p e s m below meth c ls X hN hR hS hl => bX5_both_0 (S := S) (x1 := x1) (x2 := x2) (x3 := x3) X hN hl0 _ _ _ hR hS hl hf)
abbrev rmX5_requireLanguage : Room := { frames := 7, cells := 1, slots := 6, locals := 112 }
theorem kdX5_requireLanguage : yX5_requireLanguage.cls = RX5 ∧ yX5_requireLanguage.cls ≠ "java/lang/invoke/MethodHandle" ∧ yX5_requireLanguage.cls ≠ "java/lang/invoke/VarHandle" ∧ (parseMethodDescriptor yX5_requireLanguage.desc).map (fun d => d.parameters.length) = some 1 := by decide +kernel
set_option maxRecDepth 100000 in
set_option maxHeartbeats 4000000 in
theorem bX5_requireLanguage_0 {p : Program} {l : Launch} {e : Env} {s : State} {m : MethodId} {args : Array Value} {below : List Frame} {meth : Method} {c : Code} {D : va_G} {cy : Nat → ClassId} {ad : Nat → Nat} {ba : Nat → Prop} {O : Int64} {S : teS}  {x0 : Int32} {res : (Nat ⊕ Unit)} (X : teC wsX5_requireLanguage RX5 cX5_requireLanguage 1 none D cy ba p s m args meth c) (hN : ∀ x ∈ c.exceptionTable.toList, False) (hl0 : l.stackTraces = false) (H : Heap) (locs : List Loc) (ls : Array Slot) (hR : teR D cy ad ba O S H) (hS : va_S (teA ba) s.heap H locs) (hl : lv_has ls 1 [(0, .int x0)]) (hf : fX5_requireLanguage x0 S = some res) : W p l e (headSpec wsX5_requireLanguage rmX5_requireLanguage).room s m args below meth c H locs 0 0 (vx_MQ below (va_Qv (fun u => Sum.inr () = res ∧ u = S) (fun u t => teR D cy ad ba O u t.heap) (teA ba)) (teXC D cy ad ba O S (fun c => Sum.inl c = res)) args s 1 6 (teA ba)) (F0 m 0 ls []) := by
  have hx := X.1
  have hb := X.2.1
  have hown := X.2.2.2.2.1
  unfold fX5_requireLanguage at hf
  refine lv_iload_n hx hb dX5_requireLanguage_0 rfl (lv_at hl 0 rfl) ?_
  refine lv_iconst (v := (0 : Int32)) hx hb dX5_requireLanguage_1 (by decide) ?_
  refine lv_iconst (v := (3 : Int32)) hx hb dX5_requireLanguage_2 (by decide) ?_
  rcases bx1_some hf with ⟨e_1, hq_2, hf⟩ | ⟨⟨⟩, hq_2, hf⟩
  · exact kSxl (As := [.int x0, .int (0 : Int32), .int (3 : Int32)]) (rest := []) X hN hR hS (zcX5_requireRange l D cy ad ba O S x0 (0 : Int32) (3 : Int32) hl0 _ hq_2) (va_cwS 3 X.2.2.2.2.2.1 gX5_requireLanguage_X5_requireRange rfl rfl rfl kdX5_requireRange.2 ⟨(Nat.le_of_ble_eq_true rfl), (Nat.le_of_ble_eq_true rfl)⟩)  rfl rfl hl.1 (Nat.le_of_ble_eq_true rfl) ⟨(Nat.le_of_ble_eq_true rfl), (Nat.le_of_ble_eq_true rfl)⟩ (Nat.le_of_ble_eq_true rfl) (Nat.le_of_ble_eq_true rfl) dX5_requireLanguage_3 hf.symm
  refine kSxr (As := [.int x0, .int (0 : Int32), .int (3 : Int32)]) (rest := []) X hR hS (znX5_requireRange l D cy ad ba O S x0 (0 : Int32) (3 : Int32) hq_2) (va_cwS 3 X.2.2.2.2.2.1 gX5_requireLanguage_X5_requireRange rfl rfl rfl kdX5_requireRange.2 ⟨(Nat.le_of_ble_eq_true rfl), (Nat.le_of_ble_eq_true rfl)⟩)  rfl rfl hl.1 (Nat.le_of_ble_eq_true rfl) ⟨(Nat.le_of_ble_eq_true rfl), (Nat.le_of_ble_eq_true rfl)⟩ dX5_requireLanguage_3 (fun H locs hR hS => ?_)
  exact eVx X hR hS ⟨Option.some.inj hf, rfl⟩ (Nat.le_of_ble_eq_true rfl) (Nat.le_of_ble_eq_true rfl) dX5_requireLanguage_6
theorem zcX5_requireLanguage (l : Launch) (D : va_G) (cy : Nat → ClassId) (ad : Nat → Nat) (ba : Nat → Prop) (O : Int64) (S : teS) (x0 : Int32) (hl0 : l.stackTraces = false) (res : (Nat ⊕ Unit)) (hf : fX5_requireLanguage x0 S = some res) : xP l yX5_requireLanguage wsX5_requireLanguage rmX5_requireLanguage 1 6 D cy ad ba O S [.int x0] res :=
  te_ofx (by decide) rfl (Nat.le_of_ble_eq_true rfl) (fun p e s m below meth c ls X hN hR hS hl => bX5_requireLanguage_0 (S := S) (x0 := x0) X hN hl0 _ _ _ hR hS hl hf)
abbrev rnX5_requireLanguage : Room := { frames := 7, cells := 0, slots := 0, locals := 112 }
set_option maxRecDepth 100000 in
set_option maxHeartbeats 4000000 in
theorem bnX5_requireLanguage_0 {p : Program} {l : Launch} {e : Env} {s : State} {m : MethodId} {args : Array Value} {below : List Frame} {meth : Method} {c : Code} {D : va_G} {cy : Nat → ClassId} {ad : Nat → Nat} {ba : Nat → Prop} {O : Int64} {S : teS} {x0 : Int32} (X : teC wsX5_requireLanguage RX5 cX5_requireLanguage 1 none D cy ba p s m args meth c) (hN : ∀ x ∈ c.exceptionTable.toList, False) (H : Heap) (locs : List Loc) (ls : Array Slot) (hR : teR D cy ad ba O S H) (hS : va_S (teA ba) s.heap H locs) (hl : lv_has ls 1 [(0, .int x0)]) (hf : fX5_requireLanguage x0 S = some (.inr ())) : W p l e (headSpec wsX5_requireLanguage rnX5_requireLanguage).room s m args below meth c H locs 0 0 (vx_MQ below (va_Qv (fun u => Sum.inr () = (Sum.inr () : Nat ⊕ Unit) ∧ u = S) (fun u t => teR D cy ad ba O u t.heap) (teA ba)) (teXC D cy ad ba O S (fun c => Sum.inl c = (Sum.inr () : Nat ⊕ Unit))) args s 0 0 (teA ba)) (F0 m 0 ls []) := by
  have hx := X.1
  have hb := X.2.1
  have hown := X.2.2.2.2.1
  unfold fX5_requireLanguage at hf
  refine lv_iload_n hx hb dX5_requireLanguage_0 rfl (lv_at hl 0 rfl) ?_
  refine lv_iconst (v := (0 : Int32)) hx hb dX5_requireLanguage_1 (by decide) ?_
  refine lv_iconst (v := (3 : Int32)) hx hb dX5_requireLanguage_2 (by decide) ?_
  rcases bx1_some hf with ⟨e_1, hq_2, hf⟩ | ⟨⟨⟩, hq_2, hf⟩
  · exact nomatch hf
  refine kSxr (As := [.int x0, .int (0 : Int32), .int (3 : Int32)]) (rest := []) X hR hS (znX5_requireRange l D cy ad ba O S x0 (0 : Int32) (3 : Int32) hq_2) (va_cwS 3 X.2.2.2.2.2.1 gX5_requireLanguage_X5_requireRange rfl rfl rfl kdX5_requireRange.2 ⟨(Nat.le_of_ble_eq_true rfl), (Nat.le_of_ble_eq_true rfl)⟩)  rfl rfl hl.1 (Nat.le_of_ble_eq_true rfl) ⟨(Nat.le_of_ble_eq_true rfl), (Nat.le_of_ble_eq_true rfl)⟩ dX5_requireLanguage_3 (fun H locs hR hS => ?_)
  exact eVx X hR hS ⟨Option.some.inj hf, rfl⟩ (Nat.le_of_ble_eq_true rfl) (Nat.le_of_ble_eq_true rfl) dX5_requireLanguage_6
theorem znX5_requireLanguage (l : Launch) (D : va_G) (cy : Nat → ClassId) (ad : Nat → Nat) (ba : Nat → Prop) (O : Int64) (S : teS) (x0 : Int32) (hf : fX5_requireLanguage x0 S = some (.inr ())) : xP l yX5_requireLanguage wsX5_requireLanguage rnX5_requireLanguage 0 0 D cy ad ba O S [.int x0] (.inr ()) :=
  te_ofx (by decide) rfl (Nat.le_of_ble_eq_true rfl) (fun p e s m below meth c ls X hN hR hS hl => bnX5_requireLanguage_0 (S := S) (x0 := x0) X hN _ _ _ hR hS hl hf)
abbrev rmX5_join : Room := { frames := 8, cells := 1, slots := 6, locals := 132 }
theorem kdX5_join : yX5_join.cls = RX5 ∧ yX5_join.cls ≠ "java/lang/invoke/MethodHandle" ∧ yX5_join.cls ≠ "java/lang/invoke/VarHandle" ∧ (parseMethodDescriptor yX5_join.desc).map (fun d => d.parameters.length) = some 3 := by decide +kernel
theorem wX5_join_19 : Cond.fieldLink RX5 19 "TandemExchange" "circle" "LTandemExchange$Circle;" ∈ wsX5_join := by decide +kernel
theorem iX5_join_5 : ∀ w ∈ wsX50, w ∈ wsX5_join := by decide +kernel
theorem wX5_join_80 : Cond.fieldLink RX5 80 "TandemExchange$Circle" "size" "I" ∈ wsX5_join := by decide +kernel
theorem iX5_join_1 : ∀ w ∈ wsX10, w ∈ wsX5_join := by decide +kernel
theorem wX5_join_29 : Cond.fieldLink RX5 29 "TandemExchange" "history" "LTandemExchange$History;" ∈ wsX5_join := by decide +kernel
theorem aX5_join_60 : ∀ w ∈ (vx_atS RX5 60 "java/lang/IllegalStateException" ["java/lang/RuntimeException", "java/lang/Exception"]).filter goodWord, w ∈ wsX5_join := by decide +kernel
theorem wX5_join_k56 : Cond.classLink RX5 56 "java/lang/IllegalStateException" ∈ wsX5_join := by decide +kernel
theorem wX5_join_n56 : Cond.initialized "java/lang/IllegalStateException" ∈ wsX5_join := by decide +kernel
set_option maxRecDepth 100000 in
set_option maxHeartbeats 4000000 in
theorem bX5_join_0 {p : Program} {l : Launch} {e : Env} {s : State} {m : MethodId} {args : Array Value} {below : List Frame} {meth : Method} {c : Code} {D : va_G} {cy : Nat → ClassId} {ad : Nat → Nat} {ba : Nat → Prop} {O : Int64} {S : teS}  {x1 : Int32} {x2 : Int32} {x3 : Int32} {res : (Nat ⊕ (Int32 × teS))} (X : teC wsX5_join RX5 cX5_join 4 (some .int) D cy ba p s m args meth c) (hN : ∀ x ∈ c.exceptionTable.toList, False) (hl0 : l.stackTraces = false) (H : Heap) (locs : List Loc) (ls : Array Slot) (hR : teR D cy ad ba O S H) (hS : va_S (teA ba) s.heap H locs) (hl : lv_has ls 4 [(0, .ref (ad 360)), (1, .int x1), (2, .int x2), (3, .int x3)]) (hf : fX5_join x1 x2 x3 S = some res) : W p l e (headSpec wsX5_join rmX5_join).room s m args below meth c H locs 0 0 (vx_MQ below (va_Qi (fun a u => Sum.inr (a, u) = res) (fun u t => teR D cy ad ba O u t.heap) (teA ba)) (teXC D cy ad ba O S (fun c => Sum.inl c = res)) args s 1 6 (teA ba)) (F0 m 0 ls []) := by
  have hx := X.1
  have hb := X.2.1
  have hown := X.2.2.2.2.1
  unfold fX5_join at hf
  refine lv_iload_n hx hb dX5_join_0 rfl (lv_at hl 1 rfl) ?_
  rcases bx1_some hf with ⟨e_1, hq_2, hf⟩ | ⟨⟨⟩, hq_2, hf⟩
  · exact kSxl (As := [.int x1]) (rest := []) X hN hR hS (zcX5_requireLanguage l D cy ad ba O S x1 hl0 _ hq_2) (va_cwS 1 X.2.2.2.2.2.1 gX5_join_X5_requireLanguage rfl rfl rfl kdX5_requireLanguage.2 ⟨(Nat.le_of_ble_eq_true rfl), (Nat.le_of_ble_eq_true rfl)⟩)  rfl rfl hl.1 (Nat.le_of_ble_eq_true rfl) ⟨(Nat.le_of_ble_eq_true rfl), (Nat.le_of_ble_eq_true rfl)⟩ (Nat.le_of_ble_eq_true rfl) (Nat.le_of_ble_eq_true rfl) dX5_join_1 hf.symm
  refine kSxr (As := [.int x1]) (rest := []) X hR hS (znX5_requireLanguage l D cy ad ba O S x1 hq_2) (va_cwS 1 X.2.2.2.2.2.1 gX5_join_X5_requireLanguage rfl rfl rfl kdX5_requireLanguage.2 ⟨(Nat.le_of_ble_eq_true rfl), (Nat.le_of_ble_eq_true rfl)⟩)  rfl rfl hl.1 (Nat.le_of_ble_eq_true rfl) ⟨(Nat.le_of_ble_eq_true rfl), (Nat.le_of_ble_eq_true rfl)⟩ dX5_join_1 (fun H locs hR hS => ?_)
  refine lv_iload_n hx hb dX5_join_4 rfl (lv_at hl 2 rfl) ?_
  refine lv_iconst (v := (0 : Int32)) hx hb dX5_join_5 (by decide) ?_
  refine lv_sipush (v := (9999 : Int32)) hx hb dX5_join_6 (by decide) ?_
  rcases bx1_some hf with ⟨e_3, hq_4, hf⟩ | ⟨⟨⟩, hq_4, hf⟩
  · exact kSxl (As := [.int x2, .int (0 : Int32), .int (9999 : Int32)]) (rest := []) X hN hR hS (zcX5_requireRange l D cy ad ba O S x2 (0 : Int32) (9999 : Int32) hl0 _ hq_4) (va_cwS 3 X.2.2.2.2.2.1 gX5_join_X5_requireRange rfl rfl rfl kdX5_requireRange.2 ⟨(Nat.le_of_ble_eq_true rfl), (Nat.le_of_ble_eq_true rfl)⟩)  rfl rfl hl.1 (Nat.le_of_ble_eq_true rfl) ⟨(Nat.le_of_ble_eq_true rfl), (Nat.le_of_ble_eq_true rfl)⟩ (Nat.le_of_ble_eq_true rfl) (Nat.le_of_ble_eq_true rfl) dX5_join_9 hf.symm
  refine kSxr (As := [.int x2, .int (0 : Int32), .int (9999 : Int32)]) (rest := []) X hR hS (znX5_requireRange l D cy ad ba O S x2 (0 : Int32) (9999 : Int32) hq_4) (va_cwS 3 X.2.2.2.2.2.1 gX5_join_X5_requireRange rfl rfl rfl kdX5_requireRange.2 ⟨(Nat.le_of_ble_eq_true rfl), (Nat.le_of_ble_eq_true rfl)⟩)  rfl rfl hl.1 (Nat.le_of_ble_eq_true rfl) ⟨(Nat.le_of_ble_eq_true rfl), (Nat.le_of_ble_eq_true rfl)⟩ dX5_join_9 (fun H locs hR hS => ?_)
  refine lv_iload_n hx hb dX5_join_12 rfl (lv_at hl 3 rfl) ?_
  refine lv_bipush (v := (-99 : Int32)) hx hb dX5_join_13 (by decide) ?_
  refine lv_bipush (v := (99 : Int32)) hx hb dX5_join_15 (by decide) ?_
  rcases bx1_some hf with ⟨e_5, hq_6, hf⟩ | ⟨⟨⟩, hq_6, hf⟩
  · exact kSxl (As := [.int x3, .int (-99 : Int32), .int (99 : Int32)]) (rest := []) X hN hR hS (zcX5_requireRange l D cy ad ba O S x3 (-99 : Int32) (99 : Int32) hl0 _ hq_6) (va_cwS 3 X.2.2.2.2.2.1 gX5_join_X5_requireRange rfl rfl rfl kdX5_requireRange.2 ⟨(Nat.le_of_ble_eq_true rfl), (Nat.le_of_ble_eq_true rfl)⟩)  rfl rfl hl.1 (Nat.le_of_ble_eq_true rfl) ⟨(Nat.le_of_ble_eq_true rfl), (Nat.le_of_ble_eq_true rfl)⟩ (Nat.le_of_ble_eq_true rfl) (Nat.le_of_ble_eq_true rfl) dX5_join_17 hf.symm
  refine kSxr (As := [.int x3, .int (-99 : Int32), .int (99 : Int32)]) (rest := []) X hR hS (znX5_requireRange l D cy ad ba O S x3 (-99 : Int32) (99 : Int32) hq_6) (va_cwS 3 X.2.2.2.2.2.1 gX5_join_X5_requireRange rfl rfl rfl kdX5_requireRange.2 ⟨(Nat.le_of_ble_eq_true rfl), (Nat.le_of_ble_eq_true rfl)⟩)  rfl rfl hl.1 (Nat.le_of_ble_eq_true rfl) ⟨(Nat.le_of_ble_eq_true rfl), (Nat.le_of_ble_eq_true rfl)⟩ dX5_join_17 (fun H locs hR hS => ?_)
  refine lv_aload_n hx hb dX5_join_20 rfl (lv_at hl 0 rfl) ?_
  refine rg_5_1 X hR iX5_join_5 wX5_join_19 dX5_join_21 ?_
  refine rg_1_1 X hR (by decide) iX5_join_1 wX5_join_80 dX5_join_24 ?_
  refine lv_bipush (v := (9 : Int32)) hx hb dX5_join_27 (by decide) ?_
  refine lv_icmp_lt (tgt := 42) hx hb dX5_join_29 (by decide) (fun c_7 => ?_) (fun c_7 => ?_)
  · replace hf := ite_t c_7 hf
    refine lv_aload_n hx hb dX5_join_42 rfl (lv_at hl 0 rfl) ?_
    refine rg_5_3 X hR iX5_join_5 wX5_join_29 dX5_join_43 ?_
    refine lv_aload_n hx hb dX5_join_46 rfl (lv_at hl 0 rfl) ?_
    refine rg_5_1 X hR iX5_join_5 wX5_join_19 dX5_join_47 ?_
    obtain ⟨S1, hq_9, hf⟩ := bd1_some hf
    refine kVv (id := 363) (As := [.ref (ad (20 * 0))]) (rest := []) X hR hS (zcX2_remember l D cy ad ba O S 0 (by decide) _ hq_9) (cwV 1 X.2.2.2.2.2.1 gX5_join_X2_remember rfl rfl rfl kdX2_remember ⟨(Nat.le_of_ble_eq_true rfl), (Nat.le_of_ble_eq_true rfl)⟩) (by decide) rfl rfl rfl rfl hl.1 (Nat.le_of_ble_eq_true rfl) ⟨(Nat.le_of_ble_eq_true rfl), (Nat.le_of_ble_eq_true rfl)⟩ dX5_join_50 (fun H locs hR hS => ?_)
    refine lv_aload_n hx hb dX5_join_53 rfl (lv_at hl 0 rfl) ?_
    refine rg_5_1 X hR iX5_join_5 wX5_join_19 dX5_join_54 ?_
    refine lv_iload_n hx hb dX5_join_57 rfl (lv_at hl 1 rfl) ?_
    refine lv_iload_n hx hb dX5_join_58 rfl (lv_at hl 2 rfl) ?_
    refine lv_iload_n hx hb dX5_join_59 rfl (lv_at hl 3 rfl) ?_
    obtain ⟨S2, hq_11, hf⟩ := bd1_some hf
    refine kVv (id := (20 * 0)) (As := [.int x1, .int x2, .int x3]) (rest := []) X hR hS (zcX1_add l D cy ad ba O S1 0 x1 x2 x3 (by decide) _ hq_11) (cwV 3 X.2.2.2.2.2.1 gX5_join_X1_add rfl rfl rfl kdX1_add ⟨(Nat.le_of_ble_eq_true rfl), (Nat.le_of_ble_eq_true rfl)⟩) (te_idc (by decide)) (teE_circ cy ad O S1 (by decide)) rfl rfl rfl hl.1 (Nat.le_of_ble_eq_true rfl) ⟨(Nat.le_of_ble_eq_true rfl), (Nat.le_of_ble_eq_true rfl)⟩ dX5_join_60 (fun H locs hR hS => ?_)
    refine lv_aload_n hx hb dX5_join_63 rfl (lv_at hl 0 rfl) ?_
    refine rg_5_1 X hR iX5_join_5 wX5_join_19 dX5_join_64 ?_
    refine rg_1_1 X hR (by decide) iX5_join_1 wX5_join_80 dX5_join_67 ?_
    refine lv_iconst (v := (1 : Int32)) hx hb dX5_join_70 (by decide) ?_
    refine lv_isub hx hb dX5_join_71 ?_
    exact eIx X hR hS (Option.some.inj hf) (Nat.le_of_ble_eq_true rfl) (Nat.le_of_ble_eq_true rfl) dX5_join_72
  · replace hf := ite_f c_7 hf
    exact te_thr X hN hl0 hR hS hl.1 rfl (by decide +kernel) wX5_join_k56 wX5_join_n56 (text := "the circle is full") (c0 := 2) (by decide +kernel) aX5_join_60 tx_RX5_56_60_n tx_RX5_56_60_g X.2.2.2.2.2.2.2.2.2.2.1.2.1 dX5_join_32 dX5_join_35 dX5_join_36 dX5_join_38 dX5_join_41 (Nat.le_of_ble_eq_true rfl) (Nat.le_of_ble_eq_true rfl) (Nat.le_of_ble_eq_true rfl) (Nat.le_of_ble_eq_true rfl) (Nat.le_of_ble_eq_true rfl) (Nat.le_of_ble_eq_true rfl) rfl (Option.some.inj hf)
theorem zcX5_join (l : Launch) (D : va_G) (cy : Nat → ClassId) (ad : Nat → Nat) (ba : Nat → Prop) (O : Int64) (S : teS) (x1 : Int32) (x2 : Int32) (x3 : Int32) (hl0 : l.stackTraces = false) (res : (Nat ⊕ (Int32 × teS))) (hf : fX5_join x1 x2 x3 S = some res) : xQ l yX5_join wsX5_join rmX5_join 1 6 D cy ad ba O S [.ref (ad 360), .int x1, .int x2, .int x3] res :=
  te_ofx (by decide) rfl (Nat.le_of_ble_eq_true rfl) (fun p e s m below meth c ls X hN hR hS hl => bX5_join_0 (S := S) (x1 := x1) (x2 := x2) (x3 := x3) X hN hl0 _ _ _ hR hS hl hf)
abbrev rmX5_leave : Room := { frames := 7, cells := 1, slots := 6, locals := 124 }
theorem kdX5_leave : yX5_leave.cls = RX5 ∧ yX5_leave.cls ≠ "java/lang/invoke/MethodHandle" ∧ yX5_leave.cls ≠ "java/lang/invoke/VarHandle" ∧ (parseMethodDescriptor yX5_leave.desc).map (fun d => d.parameters.length) = some 1 := by decide +kernel
theorem wX5_leave_29 : Cond.fieldLink RX5 29 "TandemExchange" "history" "LTandemExchange$History;" ∈ wsX5_leave := by decide +kernel
theorem iX5_leave_5 : ∀ w ∈ wsX50, w ∈ wsX5_leave := by decide +kernel
theorem wX5_leave_19 : Cond.fieldLink RX5 19 "TandemExchange" "circle" "LTandemExchange$Circle;" ∈ wsX5_leave := by decide +kernel
theorem wX5_leave_143 : Cond.fieldLink RX5 143 "TandemExchange$Circle" "members" "[LTandemExchange$Member;" ∈ wsX5_leave := by decide +kernel
theorem iX5_leave_1 : ∀ w ∈ wsX10, w ∈ wsX5_leave := by decide +kernel
theorem wX5_leave_147 : Cond.fieldLink RX5 147 "TandemExchange$Member" "credits" "I" ∈ wsX5_leave := by decide +kernel
theorem iX5_leave_3 : ∀ w ∈ wsX30, w ∈ wsX5_leave := by decide +kernel
set_option maxRecDepth 100000 in
set_option maxHeartbeats 4000000 in
theorem bX5_leave_0 {p : Program} {l : Launch} {e : Env} {s : State} {m : MethodId} {args : Array Value} {below : List Frame} {meth : Method} {c : Code} {D : va_G} {cy : Nat → ClassId} {ad : Nat → Nat} {ba : Nat → Prop} {O : Int64} {S : teS}  {x1 : Int32} {res : (Nat ⊕ (Int32 × teS))} (X : teC wsX5_leave RX5 cX5_leave 3 (some .int) D cy ba p s m args meth c) (hN : ∀ x ∈ c.exceptionTable.toList, False) (hl0 : l.stackTraces = false) (H : Heap) (locs : List Loc) (ls : Array Slot) (hR : teR D cy ad ba O S H) (hS : va_S (teA ba) s.heap H locs) (hl : lv_has ls 3 [(0, .ref (ad 360)), (1, .int x1)]) (hf : fX5_leave x1 S = some res) : W p l e (headSpec wsX5_leave rmX5_leave).room s m args below meth c H locs 0 0 (vx_MQ below (va_Qi (fun a u => Sum.inr (a, u) = res) (fun u t => teR D cy ad ba O u t.heap) (teA ba)) (teXC D cy ad ba O S (fun c => Sum.inl c = res)) args s 1 6 (teA ba)) (F0 m 0 ls []) := by
  have hx := X.1
  have hb := X.2.1
  have hown := X.2.2.2.2.1
  unfold fX5_leave at hf
  refine lv_aload_n hx hb dX5_leave_0 rfl (lv_at hl 0 rfl) ?_
  refine lv_iload_n hx hb dX5_leave_1 rfl (lv_at hl 1 rfl) ?_
  rcases bx1_some hf with ⟨e_1, hq_2, hf⟩ | ⟨⟨⟩, hq_2, hf⟩
  · exact kVxl (id := 360) (As := [.int x1]) (rest := []) X hN hR hS (zcX5_requireMember l D cy ad ba O S x1 hl0 _ hq_2) (cwV 1 X.2.2.2.2.2.1 gX5_leave_X5_requireMember rfl rfl rfl kdX5_requireMember ⟨(Nat.le_of_ble_eq_true rfl), (Nat.le_of_ble_eq_true rfl)⟩) (by decide) rfl rfl rfl rfl hl.1 (Nat.le_of_ble_eq_true rfl) ⟨(Nat.le_of_ble_eq_true rfl), (Nat.le_of_ble_eq_true rfl)⟩ (Nat.le_of_ble_eq_true rfl) (Nat.le_of_ble_eq_true rfl) dX5_leave_2 hf.symm
  refine kVxr (id := 360) (As := [.int x1]) (rest := []) X hR hS (znX5_requireMember l D cy ad ba O S x1 hq_2) (cwV 1 X.2.2.2.2.2.1 gX5_leave_X5_requireMember rfl rfl rfl kdX5_requireMember ⟨(Nat.le_of_ble_eq_true rfl), (Nat.le_of_ble_eq_true rfl)⟩) (by decide) rfl rfl rfl rfl hl.1 (Nat.le_of_ble_eq_true rfl) ⟨(Nat.le_of_ble_eq_true rfl), (Nat.le_of_ble_eq_true rfl)⟩ dX5_leave_2 (fun H locs hR hS => ?_)
  refine lv_aload_n hx hb dX5_leave_5 rfl (lv_at hl 0 rfl) ?_
  refine rg_5_3 X hR iX5_leave_5 wX5_leave_29 dX5_leave_6 ?_
  refine lv_aload_n hx hb dX5_leave_9 rfl (lv_at hl 0 rfl) ?_
  refine rg_5_1 X hR iX5_leave_5 wX5_leave_19 dX5_leave_10 ?_
  obtain ⟨S1, hq_4, hf⟩ := bd1_some hf
  refine kVv (id := 363) (As := [.ref (ad (20 * 0))]) (rest := []) X hR hS (zcX2_remember l D cy ad ba O S 0 (by decide) _ hq_4) (cwV 1 X.2.2.2.2.2.1 gX5_leave_X2_remember rfl rfl rfl kdX2_remember ⟨(Nat.le_of_ble_eq_true rfl), (Nat.le_of_ble_eq_true rfl)⟩) (by decide) rfl rfl rfl rfl hl.1 (Nat.le_of_ble_eq_true rfl) ⟨(Nat.le_of_ble_eq_true rfl), (Nat.le_of_ble_eq_true rfl)⟩ dX5_leave_13 (fun H locs hR hS => ?_)
  refine lv_aload_n hx hb dX5_leave_16 rfl (lv_at hl 0 rfl) ?_
  refine rg_5_1 X hR iX5_leave_5 wX5_leave_19 dX5_leave_17 ?_
  refine rg_1_0 X hR (by decide) iX5_leave_1 wX5_leave_143 dX5_leave_20 ?_
  refine lv_iload_n hx hb dX5_leave_23 rfl (lv_at hl 1 rfl) ?_
  obtain ⟨h_5, hf⟩ := chk_some hf
  refine ra_mem X hR (by decide) h_5 dX5_leave_24 ?_
  refine rg_3_3 X hR (by decide) (tein_lt h_5) iX5_leave_3 wX5_leave_147 dX5_leave_25 ?_
  refine lv_istore_n (lv' := [(2, .int (S1 0 (2 + 10 * x1.toNatClampNeg + 6))), (0, .ref (ad 360)), (1, .int x1)]) hx hb dX5_leave_28 rfl hl (by decide) rfl (fun ls hl => ?_)
  refine lv_aload_n hx hb dX5_leave_29 rfl (lv_at hl 1 rfl) ?_
  refine rg_5_1 X hR iX5_leave_5 wX5_leave_19 dX5_leave_30 ?_
  refine lv_iload_n hx hb dX5_leave_33 rfl (lv_at hl 2 rfl) ?_
  obtain ⟨S2, hq_7, hf⟩ := bd1_some hf
  refine kVv (id := (20 * 0)) (As := [.int x1]) (rest := []) X hR hS (zcX1_remove l D cy ad ba O S1 0 x1 (by decide) _ hq_7) (cwV 1 X.2.2.2.2.2.1 gX5_leave_X1_remove rfl rfl rfl kdX1_remove ⟨(Nat.le_of_ble_eq_true rfl), (Nat.le_of_ble_eq_true rfl)⟩) (te_idc (by decide)) (teE_circ cy ad O S1 (by decide)) rfl rfl rfl hl.1 (Nat.le_of_ble_eq_true rfl) ⟨(Nat.le_of_ble_eq_true rfl), (Nat.le_of_ble_eq_true rfl)⟩ dX5_leave_34 (fun H locs hR hS => ?_)
  refine lv_iload_n hx hb dX5_leave_37 rfl (lv_at hl 0 rfl) ?_
  exact eIx X hR hS (Option.some.inj hf) (Nat.le_of_ble_eq_true rfl) (Nat.le_of_ble_eq_true rfl) dX5_leave_38
theorem zcX5_leave (l : Launch) (D : va_G) (cy : Nat → ClassId) (ad : Nat → Nat) (ba : Nat → Prop) (O : Int64) (S : teS) (x1 : Int32) (hl0 : l.stackTraces = false) (res : (Nat ⊕ (Int32 × teS))) (hf : fX5_leave x1 S = some res) : xQ l yX5_leave wsX5_leave rmX5_leave 1 6 D cy ad ba O S [.ref (ad 360), .int x1] res :=
  te_ofx (by decide) rfl (Nat.le_of_ble_eq_true rfl) (fun p e s m below meth c ls X hN hR hS hl => bX5_leave_0 (S := S) (x1 := x1) X hN hl0 _ _ _ hR hS hl hf)
abbrev rmX5_want : Room := { frames := 8, cells := 1, slots := 6, locals := 132 }
theorem kdX5_want : yX5_want.cls = RX5 ∧ yX5_want.cls ≠ "java/lang/invoke/MethodHandle" ∧ yX5_want.cls ≠ "java/lang/invoke/VarHandle" ∧ (parseMethodDescriptor yX5_want.desc).map (fun d => d.parameters.length) = some 2 := by decide +kernel
theorem wX5_want_29 : Cond.fieldLink RX5 29 "TandemExchange" "history" "LTandemExchange$History;" ∈ wsX5_want := by decide +kernel
theorem iX5_want_5 : ∀ w ∈ wsX50, w ∈ wsX5_want := by decide +kernel
theorem wX5_want_19 : Cond.fieldLink RX5 19 "TandemExchange" "circle" "LTandemExchange$Circle;" ∈ wsX5_want := by decide +kernel
theorem wX5_want_143 : Cond.fieldLink RX5 143 "TandemExchange$Circle" "members" "[LTandemExchange$Member;" ∈ wsX5_want := by decide +kernel
theorem iX5_want_1 : ∀ w ∈ wsX10, w ∈ wsX5_want := by decide +kernel
theorem wX5_want_155 : Cond.fieldLink RX5 155 "TandemExchange$Member" "wants" "I" ∈ wsX5_want := by decide +kernel
theorem iX5_want_3 : ∀ w ∈ wsX30, w ∈ wsX5_want := by decide +kernel
set_option maxRecDepth 100000 in
set_option maxHeartbeats 4000000 in
theorem bX5_want_0 {p : Program} {l : Launch} {e : Env} {s : State} {m : MethodId} {args : Array Value} {below : List Frame} {meth : Method} {c : Code} {D : va_G} {cy : Nat → ClassId} {ad : Nat → Nat} {ba : Nat → Prop} {O : Int64} {S : teS}  {x1 : Int32} {x2 : Int32} {res : (Nat ⊕ (Int32 × teS))} (X : teC wsX5_want RX5 cX5_want 4 (some .int) D cy ba p s m args meth c) (hN : ∀ x ∈ c.exceptionTable.toList, False) (hl0 : l.stackTraces = false) (H : Heap) (locs : List Loc) (ls : Array Slot) (hR : teR D cy ad ba O S H) (hS : va_S (teA ba) s.heap H locs) (hl : lv_has ls 4 [(0, .ref (ad 360)), (1, .int x1), (2, .int x2)]) (hf : fX5_want x1 x2 S = some res) : W p l e (headSpec wsX5_want rmX5_want).room s m args below meth c H locs 0 0 (vx_MQ below (va_Qi (fun a u => Sum.inr (a, u) = res) (fun u t => teR D cy ad ba O u t.heap) (teA ba)) (teXC D cy ad ba O S (fun c => Sum.inl c = res)) args s 1 6 (teA ba)) (F0 m 0 ls []) := by
  have hx := X.1
  have hb := X.2.1
  have hown := X.2.2.2.2.1
  unfold fX5_want at hf
  refine lv_aload_n hx hb dX5_want_0 rfl (lv_at hl 0 rfl) ?_
  refine lv_iload_n hx hb dX5_want_1 rfl (lv_at hl 1 rfl) ?_
  rcases bx1_some hf with ⟨e_1, hq_2, hf⟩ | ⟨⟨⟩, hq_2, hf⟩
  · exact kVxl (id := 360) (As := [.int x1]) (rest := []) X hN hR hS (zcX5_requireMember l D cy ad ba O S x1 hl0 _ hq_2) (cwV 1 X.2.2.2.2.2.1 gX5_want_X5_requireMember rfl rfl rfl kdX5_requireMember ⟨(Nat.le_of_ble_eq_true rfl), (Nat.le_of_ble_eq_true rfl)⟩) (by decide) rfl rfl rfl rfl hl.1 (Nat.le_of_ble_eq_true rfl) ⟨(Nat.le_of_ble_eq_true rfl), (Nat.le_of_ble_eq_true rfl)⟩ (Nat.le_of_ble_eq_true rfl) (Nat.le_of_ble_eq_true rfl) dX5_want_2 hf.symm
  refine kVxr (id := 360) (As := [.int x1]) (rest := []) X hR hS (znX5_requireMember l D cy ad ba O S x1 hq_2) (cwV 1 X.2.2.2.2.2.1 gX5_want_X5_requireMember rfl rfl rfl kdX5_requireMember ⟨(Nat.le_of_ble_eq_true rfl), (Nat.le_of_ble_eq_true rfl)⟩) (by decide) rfl rfl rfl rfl hl.1 (Nat.le_of_ble_eq_true rfl) ⟨(Nat.le_of_ble_eq_true rfl), (Nat.le_of_ble_eq_true rfl)⟩ dX5_want_2 (fun H locs hR hS => ?_)
  refine lv_iload_n hx hb dX5_want_5 rfl (lv_at hl 2 rfl) ?_
  rcases bx1_some hf with ⟨e_3, hq_4, hf⟩ | ⟨⟨⟩, hq_4, hf⟩
  · exact kSxl (As := [.int x2]) (rest := []) X hN hR hS (zcX5_requireLanguage l D cy ad ba O S x2 hl0 _ hq_4) (va_cwS 1 X.2.2.2.2.2.1 gX5_want_X5_requireLanguage rfl rfl rfl kdX5_requireLanguage.2 ⟨(Nat.le_of_ble_eq_true rfl), (Nat.le_of_ble_eq_true rfl)⟩)  rfl rfl hl.1 (Nat.le_of_ble_eq_true rfl) ⟨(Nat.le_of_ble_eq_true rfl), (Nat.le_of_ble_eq_true rfl)⟩ (Nat.le_of_ble_eq_true rfl) (Nat.le_of_ble_eq_true rfl) dX5_want_6 hf.symm
  refine kSxr (As := [.int x2]) (rest := []) X hR hS (znX5_requireLanguage l D cy ad ba O S x2 hq_4) (va_cwS 1 X.2.2.2.2.2.1 gX5_want_X5_requireLanguage rfl rfl rfl kdX5_requireLanguage.2 ⟨(Nat.le_of_ble_eq_true rfl), (Nat.le_of_ble_eq_true rfl)⟩)  rfl rfl hl.1 (Nat.le_of_ble_eq_true rfl) ⟨(Nat.le_of_ble_eq_true rfl), (Nat.le_of_ble_eq_true rfl)⟩ dX5_want_6 (fun H locs hR hS => ?_)
  refine lv_aload_n hx hb dX5_want_9 rfl (lv_at hl 0 rfl) ?_
  refine rg_5_3 X hR iX5_want_5 wX5_want_29 dX5_want_10 ?_
  refine lv_aload_n hx hb dX5_want_13 rfl (lv_at hl 0 rfl) ?_
  refine rg_5_1 X hR iX5_want_5 wX5_want_19 dX5_want_14 ?_
  obtain ⟨S1, hq_6, hf⟩ := bd1_some hf
  refine kVv (id := 363) (As := [.ref (ad (20 * 0))]) (rest := []) X hR hS (zcX2_remember l D cy ad ba O S 0 (by decide) _ hq_6) (cwV 1 X.2.2.2.2.2.1 gX5_want_X2_remember rfl rfl rfl kdX2_remember ⟨(Nat.le_of_ble_eq_true rfl), (Nat.le_of_ble_eq_true rfl)⟩) (by decide) rfl rfl rfl rfl hl.1 (Nat.le_of_ble_eq_true rfl) ⟨(Nat.le_of_ble_eq_true rfl), (Nat.le_of_ble_eq_true rfl)⟩ dX5_want_17 (fun H locs hR hS => ?_)
  refine lv_aload_n hx hb dX5_want_20 rfl (lv_at hl 0 rfl) ?_
  refine rg_5_1 X hR iX5_want_5 wX5_want_19 dX5_want_21 ?_
  refine rg_1_0 X hR (by decide) iX5_want_1 wX5_want_143 dX5_want_24 ?_
  refine lv_iload_n hx hb dX5_want_27 rfl (lv_at hl 1 rfl) ?_
  obtain ⟨h_7, hf⟩ := chk_some hf
  refine ra_mem X hR (by decide) h_7 dX5_want_28 ?_
  refine rg_3_1 X hR (by decide) (tein_lt h_7) iX5_want_3 wX5_want_155 dX5_want_29 ?_
  refine lv_istore_n (lv' := [(3, .int (S1 0 (2 + 10 * x1.toNatClampNeg + 4))), (0, .ref (ad 360)), (1, .int x1), (2, .int x2)]) hx hb dX5_want_32 rfl hl (by decide) rfl (fun ls hl => ?_)
  refine lv_aload_n hx hb dX5_want_33 rfl (lv_at hl 1 rfl) ?_
  refine rg_5_1 X hR iX5_want_5 wX5_want_19 dX5_want_34 ?_
  refine lv_iload_n hx hb dX5_want_37 rfl (lv_at hl 2 rfl) ?_
  refine lv_iload_n hx hb dX5_want_38 rfl (lv_at hl 3 rfl) ?_
  obtain ⟨S2, hq_9, hf⟩ := bd1_some hf
  refine kVv (id := (20 * 0)) (As := [.int x1, .int x2]) (rest := []) X hR hS (zcX1_changeWish l D cy ad ba O S1 0 x1 x2 (by decide) _ hq_9) (cwV 2 X.2.2.2.2.2.1 gX5_want_X1_changeWish rfl rfl rfl kdX1_changeWish ⟨(Nat.le_of_ble_eq_true rfl), (Nat.le_of_ble_eq_true rfl)⟩) (te_idc (by decide)) (teE_circ cy ad O S1 (by decide)) rfl rfl rfl hl.1 (Nat.le_of_ble_eq_true rfl) ⟨(Nat.le_of_ble_eq_true rfl), (Nat.le_of_ble_eq_true rfl)⟩ dX5_want_39 (fun H locs hR hS => ?_)
  refine lv_iload_n hx hb dX5_want_42 rfl (lv_at hl 0 rfl) ?_
  exact eIx X hR hS (Option.some.inj hf) (Nat.le_of_ble_eq_true rfl) (Nat.le_of_ble_eq_true rfl) dX5_want_43
theorem zcX5_want (l : Launch) (D : va_G) (cy : Nat → ClassId) (ad : Nat → Nat) (ba : Nat → Prop) (O : Int64) (S : teS) (x1 : Int32) (x2 : Int32) (hl0 : l.stackTraces = false) (res : (Nat ⊕ (Int32 × teS))) (hf : fX5_want x1 x2 S = some res) : xQ l yX5_want wsX5_want rmX5_want 1 6 D cy ad ba O S [.ref (ad 360), .int x1, .int x2] res :=
  te_ofx (by decide) rfl (Nat.le_of_ble_eq_true rfl) (fun p e s m below meth c ls X hN hR hS hl => bX5_want_0 (S := S) (x1 := x1) (x2 := x2) X hN hl0 _ _ _ hR hS hl hf)
abbrev rmX5_test : Room := { frames := 8, cells := 1, slots := 6, locals := 132 }
theorem kdX5_test : yX5_test.cls = RX5 ∧ yX5_test.cls ≠ "java/lang/invoke/MethodHandle" ∧ yX5_test.cls ≠ "java/lang/invoke/VarHandle" ∧ (parseMethodDescriptor yX5_test.desc).map (fun d => d.parameters.length) = some 3 := by decide +kernel
theorem wX5_test_29 : Cond.fieldLink RX5 29 "TandemExchange" "history" "LTandemExchange$History;" ∈ wsX5_test := by decide +kernel
theorem iX5_test_5 : ∀ w ∈ wsX50, w ∈ wsX5_test := by decide +kernel
theorem wX5_test_19 : Cond.fieldLink RX5 19 "TandemExchange" "circle" "LTandemExchange$Circle;" ∈ wsX5_test := by decide +kernel
theorem wX5_test_143 : Cond.fieldLink RX5 143 "TandemExchange$Circle" "members" "[LTandemExchange$Member;" ∈ wsX5_test := by decide +kernel
theorem iX5_test_1 : ∀ w ∈ wsX10, w ∈ wsX5_test := by decide +kernel
theorem wX5_test_161 : Cond.fieldLink RX5 161 "TandemExchange$Member" "levels" "[I" ∈ wsX5_test := by decide +kernel
theorem iX5_test_3 : ∀ w ∈ wsX30, w ∈ wsX5_test := by decide +kernel
set_option maxRecDepth 100000 in
set_option maxHeartbeats 4000000 in
theorem bX5_test_0 {p : Program} {l : Launch} {e : Env} {s : State} {m : MethodId} {args : Array Value} {below : List Frame} {meth : Method} {c : Code} {D : va_G} {cy : Nat → ClassId} {ad : Nat → Nat} {ba : Nat → Prop} {O : Int64} {S : teS}  {x1 : Int32} {x2 : Int32} {x3 : Int32} {res : (Nat ⊕ (Int32 × teS))} (X : teC wsX5_test RX5 cX5_test 5 (some .int) D cy ba p s m args meth c) (hN : ∀ x ∈ c.exceptionTable.toList, False) (hl0 : l.stackTraces = false) (H : Heap) (locs : List Loc) (ls : Array Slot) (hR : teR D cy ad ba O S H) (hS : va_S (teA ba) s.heap H locs) (hl : lv_has ls 5 [(0, .ref (ad 360)), (1, .int x1), (2, .int x2), (3, .int x3)]) (hf : fX5_test x1 x2 x3 S = some res) : W p l e (headSpec wsX5_test rmX5_test).room s m args below meth c H locs 0 0 (vx_MQ below (va_Qi (fun a u => Sum.inr (a, u) = res) (fun u t => teR D cy ad ba O u t.heap) (teA ba)) (teXC D cy ad ba O S (fun c => Sum.inl c = res)) args s 1 6 (teA ba)) (F0 m 0 ls []) := by
  have hx := X.1
  have hb := X.2.1
  have hown := X.2.2.2.2.1
  unfold fX5_test at hf
  refine lv_aload_n hx hb dX5_test_0 rfl (lv_at hl 0 rfl) ?_
  refine lv_iload_n hx hb dX5_test_1 rfl (lv_at hl 1 rfl) ?_
  rcases bx1_some hf with ⟨e_1, hq_2, hf⟩ | ⟨⟨⟩, hq_2, hf⟩
  · exact kVxl (id := 360) (As := [.int x1]) (rest := []) X hN hR hS (zcX5_requireMember l D cy ad ba O S x1 hl0 _ hq_2) (cwV 1 X.2.2.2.2.2.1 gX5_test_X5_requireMember rfl rfl rfl kdX5_requireMember ⟨(Nat.le_of_ble_eq_true rfl), (Nat.le_of_ble_eq_true rfl)⟩) (by decide) rfl rfl rfl rfl hl.1 (Nat.le_of_ble_eq_true rfl) ⟨(Nat.le_of_ble_eq_true rfl), (Nat.le_of_ble_eq_true rfl)⟩ (Nat.le_of_ble_eq_true rfl) (Nat.le_of_ble_eq_true rfl) dX5_test_2 hf.symm
  refine kVxr (id := 360) (As := [.int x1]) (rest := []) X hR hS (znX5_requireMember l D cy ad ba O S x1 hq_2) (cwV 1 X.2.2.2.2.2.1 gX5_test_X5_requireMember rfl rfl rfl kdX5_requireMember ⟨(Nat.le_of_ble_eq_true rfl), (Nat.le_of_ble_eq_true rfl)⟩) (by decide) rfl rfl rfl rfl hl.1 (Nat.le_of_ble_eq_true rfl) ⟨(Nat.le_of_ble_eq_true rfl), (Nat.le_of_ble_eq_true rfl)⟩ dX5_test_2 (fun H locs hR hS => ?_)
  refine lv_iload_n hx hb dX5_test_5 rfl (lv_at hl 2 rfl) ?_
  rcases bx1_some hf with ⟨e_3, hq_4, hf⟩ | ⟨⟨⟩, hq_4, hf⟩
  · exact kSxl (As := [.int x2]) (rest := []) X hN hR hS (zcX5_requireLanguage l D cy ad ba O S x2 hl0 _ hq_4) (va_cwS 1 X.2.2.2.2.2.1 gX5_test_X5_requireLanguage rfl rfl rfl kdX5_requireLanguage.2 ⟨(Nat.le_of_ble_eq_true rfl), (Nat.le_of_ble_eq_true rfl)⟩)  rfl rfl hl.1 (Nat.le_of_ble_eq_true rfl) ⟨(Nat.le_of_ble_eq_true rfl), (Nat.le_of_ble_eq_true rfl)⟩ (Nat.le_of_ble_eq_true rfl) (Nat.le_of_ble_eq_true rfl) dX5_test_6 hf.symm
  refine kSxr (As := [.int x2]) (rest := []) X hR hS (znX5_requireLanguage l D cy ad ba O S x2 hq_4) (va_cwS 1 X.2.2.2.2.2.1 gX5_test_X5_requireLanguage rfl rfl rfl kdX5_requireLanguage.2 ⟨(Nat.le_of_ble_eq_true rfl), (Nat.le_of_ble_eq_true rfl)⟩)  rfl rfl hl.1 (Nat.le_of_ble_eq_true rfl) ⟨(Nat.le_of_ble_eq_true rfl), (Nat.le_of_ble_eq_true rfl)⟩ dX5_test_6 (fun H locs hR hS => ?_)
  refine lv_iload_n hx hb dX5_test_9 rfl (lv_at hl 3 rfl) ?_
  refine lv_iconst (v := (0 : Int32)) hx hb dX5_test_10 (by decide) ?_
  refine lv_bipush (v := (99 : Int32)) hx hb dX5_test_11 (by decide) ?_
  rcases bx1_some hf with ⟨e_5, hq_6, hf⟩ | ⟨⟨⟩, hq_6, hf⟩
  · exact kSxl (As := [.int x3, .int (0 : Int32), .int (99 : Int32)]) (rest := []) X hN hR hS (zcX5_requireRange l D cy ad ba O S x3 (0 : Int32) (99 : Int32) hl0 _ hq_6) (va_cwS 3 X.2.2.2.2.2.1 gX5_test_X5_requireRange rfl rfl rfl kdX5_requireRange.2 ⟨(Nat.le_of_ble_eq_true rfl), (Nat.le_of_ble_eq_true rfl)⟩)  rfl rfl hl.1 (Nat.le_of_ble_eq_true rfl) ⟨(Nat.le_of_ble_eq_true rfl), (Nat.le_of_ble_eq_true rfl)⟩ (Nat.le_of_ble_eq_true rfl) (Nat.le_of_ble_eq_true rfl) dX5_test_13 hf.symm
  refine kSxr (As := [.int x3, .int (0 : Int32), .int (99 : Int32)]) (rest := []) X hR hS (znX5_requireRange l D cy ad ba O S x3 (0 : Int32) (99 : Int32) hq_6) (va_cwS 3 X.2.2.2.2.2.1 gX5_test_X5_requireRange rfl rfl rfl kdX5_requireRange.2 ⟨(Nat.le_of_ble_eq_true rfl), (Nat.le_of_ble_eq_true rfl)⟩)  rfl rfl hl.1 (Nat.le_of_ble_eq_true rfl) ⟨(Nat.le_of_ble_eq_true rfl), (Nat.le_of_ble_eq_true rfl)⟩ dX5_test_13 (fun H locs hR hS => ?_)
  refine lv_aload_n hx hb dX5_test_16 rfl (lv_at hl 0 rfl) ?_
  refine rg_5_3 X hR iX5_test_5 wX5_test_29 dX5_test_17 ?_
  refine lv_aload_n hx hb dX5_test_20 rfl (lv_at hl 0 rfl) ?_
  refine rg_5_1 X hR iX5_test_5 wX5_test_19 dX5_test_21 ?_
  obtain ⟨S1, hq_8, hf⟩ := bd1_some hf
  refine kVv (id := 363) (As := [.ref (ad (20 * 0))]) (rest := []) X hR hS (zcX2_remember l D cy ad ba O S 0 (by decide) _ hq_8) (cwV 1 X.2.2.2.2.2.1 gX5_test_X2_remember rfl rfl rfl kdX2_remember ⟨(Nat.le_of_ble_eq_true rfl), (Nat.le_of_ble_eq_true rfl)⟩) (by decide) rfl rfl rfl rfl hl.1 (Nat.le_of_ble_eq_true rfl) ⟨(Nat.le_of_ble_eq_true rfl), (Nat.le_of_ble_eq_true rfl)⟩ dX5_test_24 (fun H locs hR hS => ?_)
  refine lv_aload_n hx hb dX5_test_27 rfl (lv_at hl 0 rfl) ?_
  refine rg_5_1 X hR iX5_test_5 wX5_test_19 dX5_test_28 ?_
  refine rg_1_0 X hR (by decide) iX5_test_1 wX5_test_143 dX5_test_31 ?_
  refine lv_iload_n hx hb dX5_test_34 rfl (lv_at hl 1 rfl) ?_
  obtain ⟨h_9, hf⟩ := chk_some hf
  refine ra_mem X hR (by decide) h_9 dX5_test_35 ?_
  refine rg_3_0 X hR (by decide) (tein_lt h_9) iX5_test_3 wX5_test_161 dX5_test_36 ?_
  refine lv_iload_n hx hb dX5_test_39 rfl (lv_at hl 2 rfl) ?_
  obtain ⟨h_10, hf⟩ := chk_some hf
  refine ra_lev X hR (by decide) (tein_lt h_9) h_10 dX5_test_40 ?_
  refine lv_istore (lv' := [(4, .int (S1 0 (2 + 10 * x1.toNatClampNeg + x2.toNatClampNeg))), (0, .ref (ad 360)), (1, .int x1), (2, .int x2), (3, .int x3)]) hx hb dX5_test_41 hl (by decide) rfl (fun ls hl => ?_)
  refine lv_aload_n hx hb dX5_test_43 rfl (lv_at hl 1 rfl) ?_
  refine rg_5_1 X hR iX5_test_5 wX5_test_19 dX5_test_44 ?_
  refine lv_iload_n hx hb dX5_test_47 rfl (lv_at hl 2 rfl) ?_
  refine lv_iload_n hx hb dX5_test_48 rfl (lv_at hl 3 rfl) ?_
  refine lv_iload_n hx hb dX5_test_49 rfl (lv_at hl 4 rfl) ?_
  obtain ⟨S2, hq_12, hf⟩ := bd1_some hf
  refine kVv (id := (20 * 0)) (As := [.int x1, .int x2, .int x3]) (rest := []) X hR hS (zcX1_grade l D cy ad ba O S1 0 x1 x2 x3 (by decide) _ hq_12) (cwV 3 X.2.2.2.2.2.1 gX5_test_X1_grade rfl rfl rfl kdX1_grade ⟨(Nat.le_of_ble_eq_true rfl), (Nat.le_of_ble_eq_true rfl)⟩) (te_idc (by decide)) (teE_circ cy ad O S1 (by decide)) rfl rfl rfl hl.1 (Nat.le_of_ble_eq_true rfl) ⟨(Nat.le_of_ble_eq_true rfl), (Nat.le_of_ble_eq_true rfl)⟩ dX5_test_50 (fun H locs hR hS => ?_)
  refine lv_iload hx hb dX5_test_53 (lv_at hl 0 rfl) ?_
  exact eIx X hR hS (Option.some.inj hf) (Nat.le_of_ble_eq_true rfl) (Nat.le_of_ble_eq_true rfl) dX5_test_55
theorem zcX5_test (l : Launch) (D : va_G) (cy : Nat → ClassId) (ad : Nat → Nat) (ba : Nat → Prop) (O : Int64) (S : teS) (x1 : Int32) (x2 : Int32) (x3 : Int32) (hl0 : l.stackTraces = false) (res : (Nat ⊕ (Int32 × teS))) (hf : fX5_test x1 x2 x3 S = some res) : xQ l yX5_test wsX5_test rmX5_test 1 6 D cy ad ba O S [.ref (ad 360), .int x1, .int x2, .int x3] res :=
  te_ofx (by decide) rfl (Nat.le_of_ble_eq_true rfl) (fun p e s m below meth c ls X hN hR hS hl => bX5_test_0 (S := S) (x1 := x1) (x2 := x2) (x3 := x3) X hN hl0 _ _ _ hR hS hl hf)
abbrev rmX5_pair : Room := { frames := 8, cells := 1, slots := 6, locals := 133 }
theorem kdX5_pair : yX5_pair.cls = RX5 ∧ yX5_pair.cls ≠ "java/lang/invoke/MethodHandle" ∧ yX5_pair.cls ≠ "java/lang/invoke/VarHandle" ∧ (parseMethodDescriptor yX5_pair.desc).map (fun d => d.parameters.length) = some 2 := by decide +kernel
theorem wX5_pair_19 : Cond.fieldLink RX5 19 "TandemExchange" "circle" "LTandemExchange$Circle;" ∈ wsX5_pair := by decide +kernel
theorem iX5_pair_5 : ∀ w ∈ wsX50, w ∈ wsX5_pair := by decide +kernel
theorem wX5_pair_29 : Cond.fieldLink RX5 29 "TandemExchange" "history" "LTandemExchange$History;" ∈ wsX5_pair := by decide +kernel
theorem aX5_pair_60 : ∀ w ∈ (vx_atS RX5 60 "java/lang/IllegalStateException" ["java/lang/RuntimeException", "java/lang/Exception"]).filter goodWord, w ∈ wsX5_pair := by decide +kernel
theorem wX5_pair_k56 : Cond.classLink RX5 56 "java/lang/IllegalStateException" ∈ wsX5_pair := by decide +kernel
theorem wX5_pair_n56 : Cond.initialized "java/lang/IllegalStateException" ∈ wsX5_pair := by decide +kernel
set_option maxRecDepth 100000 in
set_option maxHeartbeats 4000000 in
theorem bX5_pair_0 {p : Program} {l : Launch} {e : Env} {s : State} {m : MethodId} {args : Array Value} {below : List Frame} {meth : Method} {c : Code} {D : va_G} {cy : Nat → ClassId} {ad : Nat → Nat} {ba : Nat → Prop} {O : Int64} {S : teS}  {x1 : Int32} {x2 : Int32} {res : (Nat ⊕ (Int32 × teS))} (X : teC wsX5_pair RX5 cX5_pair 3 (some .int) D cy ba p s m args meth c) (hN : ∀ x ∈ c.exceptionTable.toList, False) (hl0 : l.stackTraces = false) (H : Heap) (locs : List Loc) (ls : Array Slot) (hR : teR D cy ad ba O S H) (hS : va_S (teA ba) s.heap H locs) (hl : lv_has ls 3 [(0, .ref (ad 360)), (1, .int x1), (2, .int x2)]) (hf : fX5_pair x1 x2 S = some res) : W p l e (headSpec wsX5_pair rmX5_pair).room s m args below meth c H locs 0 0 (vx_MQ below (va_Qi (fun a u => Sum.inr (a, u) = res) (fun u t => teR D cy ad ba O u t.heap) (teA ba)) (teXC D cy ad ba O S (fun c => Sum.inl c = res)) args s 1 6 (teA ba)) (F0 m 0 ls []) := by
  have hx := X.1
  have hb := X.2.1
  have hown := X.2.2.2.2.1
  unfold fX5_pair at hf
  refine lv_aload_n hx hb dX5_pair_0 rfl (lv_at hl 0 rfl) ?_
  refine lv_iload_n hx hb dX5_pair_1 rfl (lv_at hl 1 rfl) ?_
  refine lv_iload_n hx hb dX5_pair_2 rfl (lv_at hl 2 rfl) ?_
  rcases bx1_some hf with ⟨e_1, hq_2, hf⟩ | ⟨⟨⟩, hq_2, hf⟩
  · exact kVxl (id := 360) (As := [.int x1, .int x2]) (rest := []) X hN hR hS (zcX5_requireTwoMembers l D cy ad ba O S x1 x2 hl0 _ hq_2) (cwV 2 X.2.2.2.2.2.1 gX5_pair_X5_requireTwoMembers rfl rfl rfl kdX5_requireTwoMembers ⟨(Nat.le_of_ble_eq_true rfl), (Nat.le_of_ble_eq_true rfl)⟩) (by decide) rfl rfl rfl rfl hl.1 (Nat.le_of_ble_eq_true rfl) ⟨(Nat.le_of_ble_eq_true rfl), (Nat.le_of_ble_eq_true rfl)⟩ (Nat.le_of_ble_eq_true rfl) (Nat.le_of_ble_eq_true rfl) dX5_pair_3 hf.symm
  refine kVxr (id := 360) (As := [.int x1, .int x2]) (rest := []) X hR hS (znX5_requireTwoMembers l D cy ad ba O S x1 x2 hq_2) (cwV 2 X.2.2.2.2.2.1 gX5_pair_X5_requireTwoMembers rfl rfl rfl kdX5_requireTwoMembers ⟨(Nat.le_of_ble_eq_true rfl), (Nat.le_of_ble_eq_true rfl)⟩) (by decide) rfl rfl rfl rfl hl.1 (Nat.le_of_ble_eq_true rfl) ⟨(Nat.le_of_ble_eq_true rfl), (Nat.le_of_ble_eq_true rfl)⟩ dX5_pair_3 (fun H locs hR hS => ?_)
  refine lv_aload_n hx hb dX5_pair_6 rfl (lv_at hl 0 rfl) ?_
  refine rg_5_1 X hR iX5_pair_5 wX5_pair_19 dX5_pair_7 ?_
  refine lv_iload_n hx hb dX5_pair_10 rfl (lv_at hl 1 rfl) ?_
  refine lv_iload_n hx hb dX5_pair_11 rfl (lv_at hl 2 rfl) ?_
  obtain ⟨r_3, hq_4, hf⟩ := bd1_some hf
  refine kVi (id := (20 * 0)) (As := [.int x1, .int x2]) (rest := []) X hR hS (zcX1_canBecomePartners l D cy ad ba O S 0 x1 x2 (by decide) _ hq_4) (cwV 2 X.2.2.2.2.2.1 gX5_pair_X1_canBecomePartners rfl rfl rfl kdX1_canBecomePartners ⟨(Nat.le_of_ble_eq_true rfl), (Nat.le_of_ble_eq_true rfl)⟩) (te_idc (by decide)) (teE_circ cy ad O S (by decide)) rfl rfl rfl hl.1 (Nat.le_of_ble_eq_true rfl) ⟨(Nat.le_of_ble_eq_true rfl), (Nat.le_of_ble_eq_true rfl)⟩ dX5_pair_12 (fun H locs hR hS => ?_)
  refine lv_if_ne (tgt := 28) hx hb dX5_pair_15 (by decide) (fun c_5 => ?_) (fun c_5 => ?_)
  · replace hf := ite_f c_5 hf
    refine lv_aload_n hx hb dX5_pair_28 rfl (lv_at hl 0 rfl) ?_
    refine rg_5_3 X hR iX5_pair_5 wX5_pair_29 dX5_pair_29 ?_
    refine lv_aload_n hx hb dX5_pair_32 rfl (lv_at hl 0 rfl) ?_
    refine rg_5_1 X hR iX5_pair_5 wX5_pair_19 dX5_pair_33 ?_
    obtain ⟨S1, hq_7, hf⟩ := bd1_some hf
    refine kVv (id := 363) (As := [.ref (ad (20 * 0))]) (rest := []) X hR hS (zcX2_remember l D cy ad ba O S 0 (by decide) _ hq_7) (cwV 1 X.2.2.2.2.2.1 gX5_pair_X2_remember rfl rfl rfl kdX2_remember ⟨(Nat.le_of_ble_eq_true rfl), (Nat.le_of_ble_eq_true rfl)⟩) (by decide) rfl rfl rfl rfl hl.1 (Nat.le_of_ble_eq_true rfl) ⟨(Nat.le_of_ble_eq_true rfl), (Nat.le_of_ble_eq_true rfl)⟩ dX5_pair_36 (fun H locs hR hS => ?_)
    refine lv_aload_n hx hb dX5_pair_39 rfl (lv_at hl 0 rfl) ?_
    refine rg_5_1 X hR iX5_pair_5 wX5_pair_19 dX5_pair_40 ?_
    refine lv_iload_n hx hb dX5_pair_43 rfl (lv_at hl 1 rfl) ?_
    refine lv_iload_n hx hb dX5_pair_44 rfl (lv_at hl 2 rfl) ?_
    obtain ⟨S2, hq_9, hf⟩ := bd1_some hf
    refine kVv (id := (20 * 0)) (As := [.int x1, .int x2]) (rest := []) X hR hS (zcX1_unite l D cy ad ba O S1 0 x1 x2 (by decide) _ hq_9) (cwV 2 X.2.2.2.2.2.1 gX5_pair_X1_unite rfl rfl rfl kdX1_unite ⟨(Nat.le_of_ble_eq_true rfl), (Nat.le_of_ble_eq_true rfl)⟩) (te_idc (by decide)) (teE_circ cy ad O S1 (by decide)) rfl rfl rfl hl.1 (Nat.le_of_ble_eq_true rfl) ⟨(Nat.le_of_ble_eq_true rfl), (Nat.le_of_ble_eq_true rfl)⟩ dX5_pair_45 (fun H locs hR hS => ?_)
    refine lv_aload_n hx hb dX5_pair_48 rfl (lv_at hl 0 rfl) ?_
    refine rg_5_1 X hR iX5_pair_5 wX5_pair_19 dX5_pair_49 ?_
    refine lv_iload_n hx hb dX5_pair_52 rfl (lv_at hl 1 rfl) ?_
    refine lv_iload_n hx hb dX5_pair_53 rfl (lv_at hl 2 rfl) ?_
    obtain ⟨r_10, hq_11, hf⟩ := bd1_some hf
    refine kVi (id := (20 * 0)) (As := [.int x1, .int x2]) (rest := []) X hR hS (zcX1_value l D cy ad ba O S2 0 x1 x2 (by decide) _ hq_11) (cwV 2 X.2.2.2.2.2.1 gX5_pair_X1_value rfl rfl rfl kdX1_value ⟨(Nat.le_of_ble_eq_true rfl), (Nat.le_of_ble_eq_true rfl)⟩) (te_idc (by decide)) (teE_circ cy ad O S2 (by decide)) rfl rfl rfl hl.1 (Nat.le_of_ble_eq_true rfl) ⟨(Nat.le_of_ble_eq_true rfl), (Nat.le_of_ble_eq_true rfl)⟩ dX5_pair_54 (fun H locs hR hS => ?_)
    exact eIx X hR hS (Option.some.inj hf) (Nat.le_of_ble_eq_true rfl) (Nat.le_of_ble_eq_true rfl) dX5_pair_57
  · replace hf := ite_t c_5 hf
    exact te_thr X hN hl0 hR hS hl.1 rfl (by decide +kernel) wX5_pair_k56 wX5_pair_n56 (text := "one of them has a partner, or they do not fit") (c0 := 2) (by decide +kernel) aX5_pair_60 tx_RX5_56_60_n tx_RX5_56_60_g X.2.2.2.2.2.2.2.2.2.2.1.2.1 dX5_pair_18 dX5_pair_21 dX5_pair_22 dX5_pair_24 dX5_pair_27 (Nat.le_of_ble_eq_true rfl) (Nat.le_of_ble_eq_true rfl) (Nat.le_of_ble_eq_true rfl) (Nat.le_of_ble_eq_true rfl) (Nat.le_of_ble_eq_true rfl) (Nat.le_of_ble_eq_true rfl) rfl (Option.some.inj hf)
theorem zcX5_pair (l : Launch) (D : va_G) (cy : Nat → ClassId) (ad : Nat → Nat) (ba : Nat → Prop) (O : Int64) (S : teS) (x1 : Int32) (x2 : Int32) (hl0 : l.stackTraces = false) (res : (Nat ⊕ (Int32 × teS))) (hf : fX5_pair x1 x2 S = some res) : xQ l yX5_pair wsX5_pair rmX5_pair 1 6 D cy ad ba O S [.ref (ad 360), .int x1, .int x2] res :=
  te_ofx (by decide) rfl (Nat.le_of_ble_eq_true rfl) (fun p e s m below meth c ls X hN hR hS hl => bX5_pair_0 (S := S) (x1 := x1) (x2 := x2) X hN hl0 _ _ _ hR hS hl hf)
abbrev rmX5_requirePartner : Room := { frames := 6, cells := 1, slots := 6, locals := 90 }
theorem kdX5_requirePartner : yX5_requirePartner.cls = RX5 ∧ yX5_requirePartner.cls ≠ "java/lang/invoke/MethodHandle" ∧ yX5_requirePartner.cls ≠ "java/lang/invoke/VarHandle" ∧ (parseMethodDescriptor yX5_requirePartner.desc).map (fun d => d.parameters.length) = some 1 := by decide +kernel
theorem wX5_requirePartner_19 : Cond.fieldLink RX5 19 "TandemExchange" "circle" "LTandemExchange$Circle;" ∈ wsX5_requirePartner := by decide +kernel
theorem iX5_requirePartner_5 : ∀ w ∈ wsX50, w ∈ wsX5_requirePartner := fun _ h => List.mem_cons_of_mem _ (List.mem_append_left _ (List.mem_append_left _ (List.mem_append_left _ (List.mem_append_right _ h))))
theorem aX5_requirePartner_60 : ∀ w ∈ (vx_atS RX5 60 "java/lang/IllegalStateException" ["java/lang/RuntimeException", "java/lang/Exception"]).filter goodWord, w ∈ wsX5_requirePartner := fun _ h => List.mem_cons_of_mem _ (List.mem_append_right _ h)
theorem wX5_requirePartner_k56 : Cond.classLink RX5 56 "java/lang/IllegalStateException" ∈ wsX5_requirePartner := by decide +kernel
theorem wX5_requirePartner_n56 : Cond.initialized "java/lang/IllegalStateException" ∈ wsX5_requirePartner := by decide +kernel
set_option maxRecDepth 100000 in
set_option maxHeartbeats 4000000 in
theorem bX5_requirePartner_0 {p : Program} {l : Launch} {e : Env} {s : State} {m : MethodId} {args : Array Value} {below : List Frame} {meth : Method} {c : Code} {D : va_G} {cy : Nat → ClassId} {ad : Nat → Nat} {ba : Nat → Prop} {O : Int64} {S : teS}  {x1 : Int32} {res : (Nat ⊕ Unit)} (X : teC wsX5_requirePartner RX5 cX5_requirePartner 2 none D cy ba p s m args meth c) (hN : ∀ x ∈ c.exceptionTable.toList, False) (hl0 : l.stackTraces = false) (H : Heap) (locs : List Loc) (ls : Array Slot) (hR : teR D cy ad ba O S H) (hS : va_S (teA ba) s.heap H locs) (hl : lv_has ls 2 [(0, .ref (ad 360)), (1, .int x1)]) (hf : fX5_requirePartner x1 S = some res) : W p l e (headSpec wsX5_requirePartner rmX5_requirePartner).room s m args below meth c H locs 0 0 (vx_MQ below (va_Qv (fun u => Sum.inr () = res ∧ u = S) (fun u t => teR D cy ad ba O u t.heap) (teA ba)) (teXC D cy ad ba O S (fun c => Sum.inl c = res)) args s 1 6 (teA ba)) (F0 m 0 ls []) := by
  have hx := X.1
  have hb := X.2.1
  have hown := X.2.2.2.2.1
  unfold fX5_requirePartner at hf
  refine lv_aload_n hx hb dX5_requirePartner_0 rfl (lv_at hl 0 rfl) ?_
  refine rg_5_1 X hR iX5_requirePartner_5 wX5_requirePartner_19 dX5_requirePartner_1 ?_
  refine lv_iload_n hx hb dX5_requirePartner_4 rfl (lv_at hl 1 rfl) ?_
  obtain ⟨r_1, hq_2, hf⟩ := bd1_some hf
  refine kVi (id := (20 * 0)) (As := [.int x1]) (rest := []) X hR hS (zcX1_isFree l D cy ad ba O S 0 x1 (by decide) _ hq_2) (cwV 1 X.2.2.2.2.2.1 gX5_requirePartner_X1_isFree rfl rfl rfl kdX1_isFree ⟨(Nat.le_of_ble_eq_true rfl), (Nat.le_of_ble_eq_true rfl)⟩) (te_idc (by decide)) (teE_circ cy ad O S (by decide)) rfl rfl rfl hl.1 (Nat.le_of_ble_eq_true rfl) ⟨(Nat.le_of_ble_eq_true rfl), (Nat.le_of_ble_eq_true rfl)⟩ dX5_requirePartner_5 (fun H locs hR hS => ?_)
  refine lv_if_eq (tgt := 22) hx hb dX5_requirePartner_8 (by decide) (fun c_3 => ?_) (fun c_3 => ?_)
  · replace hf := ite_t c_3 hf
    exact eVx X hR hS ⟨Option.some.inj hf, rfl⟩ (Nat.le_of_ble_eq_true rfl) (Nat.le_of_ble_eq_true rfl) dX5_requirePartner_22
  · replace hf := ite_f c_3 hf
    exact te_thrW X hN hl0 hR hS hl.1 rfl (by decide +kernel) wX5_requirePartner_k56 wX5_requirePartner_n56 (text := "the member has no partner") (c0 := 2) (by decide +kernel) aX5_requirePartner_60 tx_RX5_56_60_n tx_RX5_56_60_g X.2.2.2.2.2.2.2.2.2.2.1.2.1 dX5_requirePartner_11 dX5_requirePartner_14 dX5_requirePartner_15 dX5_requirePartner_18 dX5_requirePartner_21 (Nat.le_of_ble_eq_true rfl) (Nat.le_of_ble_eq_true rfl) (Nat.le_of_ble_eq_true rfl) (Nat.le_of_ble_eq_true rfl) (Nat.le_of_ble_eq_true rfl) (Nat.le_of_ble_eq_true rfl) rfl (Option.some.inj hf)
theorem zcX5_requirePartner (l : Launch) (D : va_G) (cy : Nat → ClassId) (ad : Nat → Nat) (ba : Nat → Prop) (O : Int64) (S : teS) (x1 : Int32) (hl0 : l.stackTraces = false) (res : (Nat ⊕ Unit)) (hf : fX5_requirePartner x1 S = some res) : xP l yX5_requirePartner wsX5_requirePartner rmX5_requirePartner 1 6 D cy ad ba O S [.ref (ad 360), .int x1] res :=
  te_ofx (by decide) rfl (Nat.le_of_ble_eq_true rfl) (fun p e s m below meth c ls X hN hR hS hl => bX5_requirePartner_0 (S := S) (x1 := x1) X hN hl0 _ _ _ hR hS hl hf)
abbrev rnX5_requirePartner : Room := { frames := 1, cells := 0, slots := 0, locals := 21 }
set_option maxRecDepth 100000 in
set_option maxHeartbeats 4000000 in
theorem bnX5_requirePartner_0 {p : Program} {l : Launch} {e : Env} {s : State} {m : MethodId} {args : Array Value} {below : List Frame} {meth : Method} {c : Code} {D : va_G} {cy : Nat → ClassId} {ad : Nat → Nat} {ba : Nat → Prop} {O : Int64} {S : teS} {x1 : Int32} (X : teC wsX5_requirePartner RX5 cX5_requirePartner 2 none D cy ba p s m args meth c) (hN : ∀ x ∈ c.exceptionTable.toList, False) (H : Heap) (locs : List Loc) (ls : Array Slot) (hR : teR D cy ad ba O S H) (hS : va_S (teA ba) s.heap H locs) (hl : lv_has ls 2 [(0, .ref (ad 360)), (1, .int x1)]) (hf : fX5_requirePartner x1 S = some (.inr ())) : W p l e (headSpec wsX5_requirePartner rnX5_requirePartner).room s m args below meth c H locs 0 0 (vx_MQ below (va_Qv (fun u => Sum.inr () = (Sum.inr () : Nat ⊕ Unit) ∧ u = S) (fun u t => teR D cy ad ba O u t.heap) (teA ba)) (teXC D cy ad ba O S (fun c => Sum.inl c = (Sum.inr () : Nat ⊕ Unit))) args s 0 0 (teA ba)) (F0 m 0 ls []) := by
  have hx := X.1
  have hb := X.2.1
  have hown := X.2.2.2.2.1
  unfold fX5_requirePartner at hf
  refine lv_aload_n hx hb dX5_requirePartner_0 rfl (lv_at hl 0 rfl) ?_
  refine rg_5_1 X hR iX5_requirePartner_5 wX5_requirePartner_19 dX5_requirePartner_1 ?_
  refine lv_iload_n hx hb dX5_requirePartner_4 rfl (lv_at hl 1 rfl) ?_
  obtain ⟨r_1, hq_2, hf⟩ := bd1_some hf
  refine kVi (id := (20 * 0)) (As := [.int x1]) (rest := []) X hR hS (zcX1_isFree l D cy ad ba O S 0 x1 (by decide) _ hq_2) (cwV 1 X.2.2.2.2.2.1 gX5_requirePartner_X1_isFree rfl rfl rfl kdX1_isFree ⟨(Nat.le_of_ble_eq_true rfl), (Nat.le_of_ble_eq_true rfl)⟩) (te_idc (by decide)) (teE_circ cy ad O S (by decide)) rfl rfl rfl hl.1 (Nat.le_of_ble_eq_true rfl) ⟨(Nat.le_of_ble_eq_true rfl), (Nat.le_of_ble_eq_true rfl)⟩ dX5_requirePartner_5 (fun H locs hR hS => ?_)
  refine lv_if_eq (tgt := 22) hx hb dX5_requirePartner_8 (by decide) (fun c_3 => ?_) (fun c_3 => ?_)
  · replace hf := ite_t c_3 hf
    exact eVx X hR hS ⟨Option.some.inj hf, rfl⟩ (Nat.le_of_ble_eq_true rfl) (Nat.le_of_ble_eq_true rfl) dX5_requirePartner_22
  · replace hf := ite_f c_3 hf
    exact nomatch (Option.some.inj hf)
theorem znX5_requirePartner (l : Launch) (D : va_G) (cy : Nat → ClassId) (ad : Nat → Nat) (ba : Nat → Prop) (O : Int64) (S : teS) (x1 : Int32) (hf : fX5_requirePartner x1 S = some (.inr ())) : xP l yX5_requirePartner wsX5_requirePartner rnX5_requirePartner 0 0 D cy ad ba O S [.ref (ad 360), .int x1] (.inr ()) :=
  te_ofx (by decide) rfl (Nat.le_of_ble_eq_true rfl) (fun p e s m below meth c ls X hN hR hS hl => bnX5_requirePartner_0 (S := S) (x1 := x1) X hN _ _ _ hR hS hl hf)
abbrev rmX5_part : Room := { frames := 7, cells := 1, slots := 6, locals := 124 }
theorem kdX5_part : yX5_part.cls = RX5 ∧ yX5_part.cls ≠ "java/lang/invoke/MethodHandle" ∧ yX5_part.cls ≠ "java/lang/invoke/VarHandle" ∧ (parseMethodDescriptor yX5_part.desc).map (fun d => d.parameters.length) = some 1 := by decide +kernel
theorem wX5_part_29 : Cond.fieldLink RX5 29 "TandemExchange" "history" "LTandemExchange$History;" ∈ wsX5_part := by decide +kernel
theorem iX5_part_5 : ∀ w ∈ wsX50, w ∈ wsX5_part := by decide +kernel
theorem wX5_part_19 : Cond.fieldLink RX5 19 "TandemExchange" "circle" "LTandemExchange$Circle;" ∈ wsX5_part := by decide +kernel
theorem wX5_part_143 : Cond.fieldLink RX5 143 "TandemExchange$Circle" "members" "[LTandemExchange$Member;" ∈ wsX5_part := by decide +kernel
theorem iX5_part_1 : ∀ w ∈ wsX10, w ∈ wsX5_part := by decide +kernel
theorem wX5_part_179 : Cond.fieldLink RX5 179 "TandemExchange$Member" "partner" "I" ∈ wsX5_part := by decide +kernel
theorem iX5_part_3 : ∀ w ∈ wsX30, w ∈ wsX5_part := by decide +kernel
set_option maxRecDepth 100000 in
set_option maxHeartbeats 4000000 in
theorem bX5_part_0 {p : Program} {l : Launch} {e : Env} {s : State} {m : MethodId} {args : Array Value} {below : List Frame} {meth : Method} {c : Code} {D : va_G} {cy : Nat → ClassId} {ad : Nat → Nat} {ba : Nat → Prop} {O : Int64} {S : teS}  {x1 : Int32} {res : (Nat ⊕ (Int32 × teS))} (X : teC wsX5_part RX5 cX5_part 3 (some .int) D cy ba p s m args meth c) (hN : ∀ x ∈ c.exceptionTable.toList, False) (hl0 : l.stackTraces = false) (H : Heap) (locs : List Loc) (ls : Array Slot) (hR : teR D cy ad ba O S H) (hS : va_S (teA ba) s.heap H locs) (hl : lv_has ls 3 [(0, .ref (ad 360)), (1, .int x1)]) (hf : fX5_part x1 S = some res) : W p l e (headSpec wsX5_part rmX5_part).room s m args below meth c H locs 0 0 (vx_MQ below (va_Qi (fun a u => Sum.inr (a, u) = res) (fun u t => teR D cy ad ba O u t.heap) (teA ba)) (teXC D cy ad ba O S (fun c => Sum.inl c = res)) args s 1 6 (teA ba)) (F0 m 0 ls []) := by
  have hx := X.1
  have hb := X.2.1
  have hown := X.2.2.2.2.1
  unfold fX5_part at hf
  refine lv_aload_n hx hb dX5_part_0 rfl (lv_at hl 0 rfl) ?_
  refine lv_iload_n hx hb dX5_part_1 rfl (lv_at hl 1 rfl) ?_
  rcases bx1_some hf with ⟨e_1, hq_2, hf⟩ | ⟨⟨⟩, hq_2, hf⟩
  · exact kVxl (id := 360) (As := [.int x1]) (rest := []) X hN hR hS (zcX5_requireMember l D cy ad ba O S x1 hl0 _ hq_2) (cwV 1 X.2.2.2.2.2.1 gX5_part_X5_requireMember rfl rfl rfl kdX5_requireMember ⟨(Nat.le_of_ble_eq_true rfl), (Nat.le_of_ble_eq_true rfl)⟩) (by decide) rfl rfl rfl rfl hl.1 (Nat.le_of_ble_eq_true rfl) ⟨(Nat.le_of_ble_eq_true rfl), (Nat.le_of_ble_eq_true rfl)⟩ (Nat.le_of_ble_eq_true rfl) (Nat.le_of_ble_eq_true rfl) dX5_part_2 hf.symm
  refine kVxr (id := 360) (As := [.int x1]) (rest := []) X hR hS (znX5_requireMember l D cy ad ba O S x1 hq_2) (cwV 1 X.2.2.2.2.2.1 gX5_part_X5_requireMember rfl rfl rfl kdX5_requireMember ⟨(Nat.le_of_ble_eq_true rfl), (Nat.le_of_ble_eq_true rfl)⟩) (by decide) rfl rfl rfl rfl hl.1 (Nat.le_of_ble_eq_true rfl) ⟨(Nat.le_of_ble_eq_true rfl), (Nat.le_of_ble_eq_true rfl)⟩ dX5_part_2 (fun H locs hR hS => ?_)
  refine lv_aload_n hx hb dX5_part_5 rfl (lv_at hl 0 rfl) ?_
  refine lv_iload_n hx hb dX5_part_6 rfl (lv_at hl 1 rfl) ?_
  rcases bx1_some hf with ⟨e_3, hq_4, hf⟩ | ⟨⟨⟩, hq_4, hf⟩
  · exact kVxl (id := 360) (As := [.int x1]) (rest := []) X hN hR hS (zcX5_requirePartner l D cy ad ba O S x1 hl0 _ hq_4) (cwV 1 X.2.2.2.2.2.1 gX5_part_X5_requirePartner rfl rfl rfl kdX5_requirePartner ⟨(Nat.le_of_ble_eq_true rfl), (Nat.le_of_ble_eq_true rfl)⟩) (by decide) rfl rfl rfl rfl hl.1 (Nat.le_of_ble_eq_true rfl) ⟨(Nat.le_of_ble_eq_true rfl), (Nat.le_of_ble_eq_true rfl)⟩ (Nat.le_of_ble_eq_true rfl) (Nat.le_of_ble_eq_true rfl) dX5_part_7 hf.symm
  refine kVxr (id := 360) (As := [.int x1]) (rest := []) X hR hS (znX5_requirePartner l D cy ad ba O S x1 hq_4) (cwV 1 X.2.2.2.2.2.1 gX5_part_X5_requirePartner rfl rfl rfl kdX5_requirePartner ⟨(Nat.le_of_ble_eq_true rfl), (Nat.le_of_ble_eq_true rfl)⟩) (by decide) rfl rfl rfl rfl hl.1 (Nat.le_of_ble_eq_true rfl) ⟨(Nat.le_of_ble_eq_true rfl), (Nat.le_of_ble_eq_true rfl)⟩ dX5_part_7 (fun H locs hR hS => ?_)
  refine lv_aload_n hx hb dX5_part_10 rfl (lv_at hl 0 rfl) ?_
  refine rg_5_3 X hR iX5_part_5 wX5_part_29 dX5_part_11 ?_
  refine lv_aload_n hx hb dX5_part_14 rfl (lv_at hl 0 rfl) ?_
  refine rg_5_1 X hR iX5_part_5 wX5_part_19 dX5_part_15 ?_
  obtain ⟨S1, hq_6, hf⟩ := bd1_some hf
  refine kVv (id := 363) (As := [.ref (ad (20 * 0))]) (rest := []) X hR hS (zcX2_remember l D cy ad ba O S 0 (by decide) _ hq_6) (cwV 1 X.2.2.2.2.2.1 gX5_part_X2_remember rfl rfl rfl kdX2_remember ⟨(Nat.le_of_ble_eq_true rfl), (Nat.le_of_ble_eq_true rfl)⟩) (by decide) rfl rfl rfl rfl hl.1 (Nat.le_of_ble_eq_true rfl) ⟨(Nat.le_of_ble_eq_true rfl), (Nat.le_of_ble_eq_true rfl)⟩ dX5_part_18 (fun H locs hR hS => ?_)
  refine lv_aload_n hx hb dX5_part_21 rfl (lv_at hl 0 rfl) ?_
  refine rg_5_1 X hR iX5_part_5 wX5_part_19 dX5_part_22 ?_
  refine rg_1_0 X hR (by decide) iX5_part_1 wX5_part_143 dX5_part_25 ?_
  refine lv_iload_n hx hb dX5_part_28 rfl (lv_at hl 1 rfl) ?_
  obtain ⟨h_7, hf⟩ := chk_some hf
  refine ra_mem X hR (by decide) h_7 dX5_part_29 ?_
  refine rg_3_5 X hR (by decide) (tein_lt h_7) iX5_part_3 wX5_part_179 dX5_part_30 ?_
  refine lv_istore_n (lv' := [(2, .int (S1 0 (2 + 10 * x1.toNatClampNeg + 8))), (0, .ref (ad 360)), (1, .int x1)]) hx hb dX5_part_33 rfl hl (by decide) rfl (fun ls hl => ?_)
  refine lv_aload_n hx hb dX5_part_34 rfl (lv_at hl 1 rfl) ?_
  refine rg_5_1 X hR iX5_part_5 wX5_part_19 dX5_part_35 ?_
  refine lv_iload_n hx hb dX5_part_38 rfl (lv_at hl 2 rfl) ?_
  obtain ⟨S2, hq_9, hf⟩ := bd1_some hf
  refine kVv (id := (20 * 0)) (As := [.int x1]) (rest := []) X hR hS (zcX1_separate l D cy ad ba O S1 0 x1 (by decide) _ hq_9) (cwV 1 X.2.2.2.2.2.1 gX5_part_X1_separate rfl rfl rfl kdX1_separate ⟨(Nat.le_of_ble_eq_true rfl), (Nat.le_of_ble_eq_true rfl)⟩) (te_idc (by decide)) (teE_circ cy ad O S1 (by decide)) rfl rfl rfl hl.1 (Nat.le_of_ble_eq_true rfl) ⟨(Nat.le_of_ble_eq_true rfl), (Nat.le_of_ble_eq_true rfl)⟩ dX5_part_39 (fun H locs hR hS => ?_)
  refine lv_iload_n hx hb dX5_part_42 rfl (lv_at hl 0 rfl) ?_
  exact eIx X hR hS (Option.some.inj hf) (Nat.le_of_ble_eq_true rfl) (Nat.le_of_ble_eq_true rfl) dX5_part_43
theorem zcX5_part (l : Launch) (D : va_G) (cy : Nat → ClassId) (ad : Nat → Nat) (ba : Nat → Prop) (O : Int64) (S : teS) (x1 : Int32) (hl0 : l.stackTraces = false) (res : (Nat ⊕ (Int32 × teS))) (hf : fX5_part x1 S = some res) : xQ l yX5_part wsX5_part rmX5_part 1 6 D cy ad ba O S [.ref (ad 360), .int x1] res :=
  te_ofx (by decide) rfl (Nat.le_of_ble_eq_true rfl) (fun p e s m below meth c ls X hN hR hS hl => bX5_part_0 (S := S) (x1 := x1) X hN hl0 _ _ _ hR hS hl hf)
abbrev rmX5_match : Room := { frames := 5, cells := 0, slots := 0, locals := 124 }
theorem kdX5_match : yX5_match.cls = RX5 ∧ yX5_match.cls ≠ "java/lang/invoke/MethodHandle" ∧ yX5_match.cls ≠ "java/lang/invoke/VarHandle" ∧ (parseMethodDescriptor yX5_match.desc).map (fun d => d.parameters.length) = some 0 := by decide +kernel
theorem wX5_match_29 : Cond.fieldLink RX5 29 "TandemExchange" "history" "LTandemExchange$History;" ∈ wsX5_match := by decide +kernel
theorem iX5_match_5 : ∀ w ∈ wsX50, w ∈ wsX5_match := by decide +kernel
theorem wX5_match_19 : Cond.fieldLink RX5 19 "TandemExchange" "circle" "LTandemExchange$Circle;" ∈ wsX5_match := by decide +kernel
set_option maxRecDepth 100000 in
set_option maxHeartbeats 4000000 in
theorem bX5_match_0 {p : Program} {l : Launch} {e : Env} {s : State} {m : MethodId} {args : Array Value} {below : List Frame} {meth : Method} {c : Code} {D : va_G} {cy : Nat → ClassId} {ad : Nat → Nat} {ba : Nat → Prop} {O : Int64} {S : teS}  {res : (Int32 × teS)} (X : teC wsX5_match RX5 cX5_match 1 (some .int) D cy ba p s m args meth c) (H : Heap) (locs : List Loc) (ls : Array Slot) (hR : teR D cy ad ba O S H) (hS : va_S (teA ba) s.heap H locs) (hl : lv_has ls 1 [(0, .ref (ad 360))]) (hf : fX5_match S = some res) : W p l e (headSpec wsX5_match rmX5_match).room s m args below meth c H locs 0 0 (MQ below (va_Qi (fun a (u : teS) => a = res.1 ∧ u = res.2) (fun u t => teR D cy ad ba O u t.heap) (teA ba)) args s 0 0 (teA ba)) (F0 m 0 ls []) := by
  have hx := X.1
  have hb := X.2.1
  have hown := X.2.2.2.2.1
  unfold fX5_match at hf
  refine lv_aload_n hx hb dX5_match_0 rfl (lv_at hl 0 rfl) ?_
  refine rg_5_3 X hR iX5_match_5 wX5_match_29 dX5_match_1 ?_
  refine lv_aload_n hx hb dX5_match_4 rfl (lv_at hl 0 rfl) ?_
  refine rg_5_1 X hR iX5_match_5 wX5_match_19 dX5_match_5 ?_
  obtain ⟨S1, hq_2, hf⟩ := bd1_some hf
  refine kVv (id := 363) (As := [.ref (ad (20 * 0))]) (rest := []) X hR hS (zcX2_remember l D cy ad ba O S 0 (by decide) _ hq_2) (cwV 1 X.2.2.2.2.2.1 gX5_match_X2_remember rfl rfl rfl kdX2_remember ⟨(Nat.le_of_ble_eq_true rfl), (Nat.le_of_ble_eq_true rfl)⟩) (by decide) rfl rfl rfl rfl hl.1 (Nat.le_of_ble_eq_true rfl) ⟨(Nat.le_of_ble_eq_true rfl), (Nat.le_of_ble_eq_true rfl)⟩ dX5_match_8 (fun H locs hR hS => ?_)
  refine lv_aload_n hx hb dX5_match_11 rfl (lv_at hl 0 rfl) ?_
  refine rg_5_1 X hR iX5_match_5 wX5_match_19 dX5_match_12 ?_
  obtain ⟨r_3, S2, hq_4, hf⟩ := bd2_some hf
  refine kVi (id := (20 * 0)) (As := []) (rest := []) X hR hS (zcX1_matchFree l D cy ad ba O S1 0 (by decide) _ _ hq_4) (cwV 0 X.2.2.2.2.2.1 gX5_match_X1_matchFree rfl rfl rfl kdX1_matchFree ⟨(Nat.le_of_ble_eq_true rfl), (Nat.le_of_ble_eq_true rfl)⟩) (te_idc (by decide)) (teE_circ cy ad O S1 (by decide)) rfl rfl rfl hl.1 (Nat.le_of_ble_eq_true rfl) ⟨(Nat.le_of_ble_eq_true rfl), (Nat.le_of_ble_eq_true rfl)⟩ dX5_match_15 (fun H locs hR hS => ?_)
  exact eI X hR hS (congrArg Prod.fst (Option.some.inj hf)) (congrArg Prod.snd (Option.some.inj hf)) dX5_match_18
theorem zcX5_match (l : Launch) (D : va_G) (cy : Nat → ClassId) (ad : Nat → Nat) (ba : Nat → Prop) (O : Int64) (S : teS) (r : Int32) (S1 : teS) (hf : fX5_match S = some (r, S1)) : cI l yX5_match wsX5_match rmX5_match D cy ad ba O S [.ref (ad 360)] r S1 :=
  te_of (by decide) rfl (Nat.le_of_ble_eq_true rfl) (fun p e s m below meth c ls X hR hS hl => bX5_match_0 (res := (r, S1)) (S := S)  X _ _ _ hR hS hl hf)
abbrev rmX5_settle : Room := { frames := 7, cells := 1, slots := 6, locals := 135 }
theorem kdX5_settle : yX5_settle.cls = RX5 ∧ yX5_settle.cls ≠ "java/lang/invoke/MethodHandle" ∧ yX5_settle.cls ≠ "java/lang/invoke/VarHandle" ∧ (parseMethodDescriptor yX5_settle.desc).map (fun d => d.parameters.length) = some 1 := by decide +kernel
theorem wX5_settle_29 : Cond.fieldLink RX5 29 "TandemExchange" "history" "LTandemExchange$History;" ∈ wsX5_settle := by decide +kernel
theorem iX5_settle_5 : ∀ w ∈ wsX50, w ∈ wsX5_settle := by decide +kernel
theorem wX5_settle_19 : Cond.fieldLink RX5 19 "TandemExchange" "circle" "LTandemExchange$Circle;" ∈ wsX5_settle := by decide +kernel
set_option maxRecDepth 100000 in
set_option maxHeartbeats 4000000 in
theorem bX5_settle_0 {p : Program} {l : Launch} {e : Env} {s : State} {m : MethodId} {args : Array Value} {below : List Frame} {meth : Method} {c : Code} {D : va_G} {cy : Nat → ClassId} {ad : Nat → Nat} {ba : Nat → Prop} {O : Int64} {S : teS}  {x1 : Int32} {res : (Nat ⊕ (Int32 × teS))} (X : teC wsX5_settle RX5 cX5_settle 2 (some .int) D cy ba p s m args meth c) (hN : ∀ x ∈ c.exceptionTable.toList, False) (hl0 : l.stackTraces = false) (H : Heap) (locs : List Loc) (ls : Array Slot) (hR : teR D cy ad ba O S H) (hS : va_S (teA ba) s.heap H locs) (hl : lv_has ls 2 [(0, .ref (ad 360)), (1, .int x1)]) (hf : fX5_settle x1 S = some res) : W p l e (headSpec wsX5_settle rmX5_settle).room s m args below meth c H locs 0 0 (vx_MQ below (va_Qi (fun a u => Sum.inr (a, u) = res) (fun u t => teR D cy ad ba O u t.heap) (teA ba)) (teXC D cy ad ba O S (fun c => Sum.inl c = res)) args s 1 6 (teA ba)) (F0 m 0 ls []) := by
  have hx := X.1
  have hb := X.2.1
  have hown := X.2.2.2.2.1
  unfold fX5_settle at hf
  refine lv_iload_n hx hb dX5_settle_0 rfl (lv_at hl 1 rfl) ?_
  refine lv_iconst (v := (1 : Int32)) hx hb dX5_settle_1 (by decide) ?_
  refine lv_bipush (v := (50 : Int32)) hx hb dX5_settle_2 (by decide) ?_
  rcases bx1_some hf with ⟨e_1, hq_2, hf⟩ | ⟨⟨⟩, hq_2, hf⟩
  · exact kSxl (As := [.int x1, .int (1 : Int32), .int (50 : Int32)]) (rest := []) X hN hR hS (zcX5_requireRange l D cy ad ba O S x1 (1 : Int32) (50 : Int32) hl0 _ hq_2) (va_cwS 3 X.2.2.2.2.2.1 gX5_settle_X5_requireRange rfl rfl rfl kdX5_requireRange.2 ⟨(Nat.le_of_ble_eq_true rfl), (Nat.le_of_ble_eq_true rfl)⟩)  rfl rfl hl.1 (Nat.le_of_ble_eq_true rfl) ⟨(Nat.le_of_ble_eq_true rfl), (Nat.le_of_ble_eq_true rfl)⟩ (Nat.le_of_ble_eq_true rfl) (Nat.le_of_ble_eq_true rfl) dX5_settle_4 hf.symm
  refine kSxr (As := [.int x1, .int (1 : Int32), .int (50 : Int32)]) (rest := []) X hR hS (znX5_requireRange l D cy ad ba O S x1 (1 : Int32) (50 : Int32) hq_2) (va_cwS 3 X.2.2.2.2.2.1 gX5_settle_X5_requireRange rfl rfl rfl kdX5_requireRange.2 ⟨(Nat.le_of_ble_eq_true rfl), (Nat.le_of_ble_eq_true rfl)⟩)  rfl rfl hl.1 (Nat.le_of_ble_eq_true rfl) ⟨(Nat.le_of_ble_eq_true rfl), (Nat.le_of_ble_eq_true rfl)⟩ dX5_settle_4 (fun H locs hR hS => ?_)
  refine lv_aload_n hx hb dX5_settle_7 rfl (lv_at hl 0 rfl) ?_
  refine rg_5_3 X hR iX5_settle_5 wX5_settle_29 dX5_settle_8 ?_
  refine lv_aload_n hx hb dX5_settle_11 rfl (lv_at hl 0 rfl) ?_
  refine rg_5_1 X hR iX5_settle_5 wX5_settle_19 dX5_settle_12 ?_
  obtain ⟨S1, hq_4, hf⟩ := bd1_some hf
  refine kVv (id := 363) (As := [.ref (ad (20 * 0))]) (rest := []) X hR hS (zcX2_remember l D cy ad ba O S 0 (by decide) _ hq_4) (cwV 1 X.2.2.2.2.2.1 gX5_settle_X2_remember rfl rfl rfl kdX2_remember ⟨(Nat.le_of_ble_eq_true rfl), (Nat.le_of_ble_eq_true rfl)⟩) (by decide) rfl rfl rfl rfl hl.1 (Nat.le_of_ble_eq_true rfl) ⟨(Nat.le_of_ble_eq_true rfl), (Nat.le_of_ble_eq_true rfl)⟩ dX5_settle_15 (fun H locs hR hS => ?_)
  refine lv_aload_n hx hb dX5_settle_18 rfl (lv_at hl 0 rfl) ?_
  refine rg_5_1 X hR iX5_settle_5 wX5_settle_19 dX5_settle_19 ?_
  refine lv_iload_n hx hb dX5_settle_22 rfl (lv_at hl 1 rfl) ?_
  obtain ⟨r_5, S2, hq_6, hf⟩ := bd2_some hf
  refine kVi (id := (20 * 0)) (As := [.int x1]) (rest := []) X hR hS (zcX1_settleBy l D cy ad ba O S1 0 x1 (by decide) _ _ hq_6) (cwV 1 X.2.2.2.2.2.1 gX5_settle_X1_settleBy rfl rfl rfl kdX1_settleBy ⟨(Nat.le_of_ble_eq_true rfl), (Nat.le_of_ble_eq_true rfl)⟩) (te_idc (by decide)) (teE_circ cy ad O S1 (by decide)) rfl rfl rfl hl.1 (Nat.le_of_ble_eq_true rfl) ⟨(Nat.le_of_ble_eq_true rfl), (Nat.le_of_ble_eq_true rfl)⟩ dX5_settle_23 (fun H locs hR hS => ?_)
  exact eIx X hR hS (Option.some.inj hf) (Nat.le_of_ble_eq_true rfl) (Nat.le_of_ble_eq_true rfl) dX5_settle_26
theorem zcX5_settle (l : Launch) (D : va_G) (cy : Nat → ClassId) (ad : Nat → Nat) (ba : Nat → Prop) (O : Int64) (S : teS) (x1 : Int32) (hl0 : l.stackTraces = false) (res : (Nat ⊕ (Int32 × teS))) (hf : fX5_settle x1 S = some res) : xQ l yX5_settle wsX5_settle rmX5_settle 1 6 D cy ad ba O S [.ref (ad 360), .int x1] res :=
  te_ofx (by decide) rfl (Nat.le_of_ble_eq_true rfl) (fun p e s m below meth c ls X hN hR hS hl => bX5_settle_0 (S := S) (x1 := x1) X hN hl0 _ _ _ hR hS hl hf)
abbrev rmX5_week : Room := { frames := 7, cells := 1, slots := 6, locals := 124 }
theorem kdX5_week : yX5_week.cls = RX5 ∧ yX5_week.cls ≠ "java/lang/invoke/MethodHandle" ∧ yX5_week.cls ≠ "java/lang/invoke/VarHandle" ∧ (parseMethodDescriptor yX5_week.desc).map (fun d => d.parameters.length) = some 1 := by decide +kernel
theorem wX5_week_29 : Cond.fieldLink RX5 29 "TandemExchange" "history" "LTandemExchange$History;" ∈ wsX5_week := by decide +kernel
theorem iX5_week_5 : ∀ w ∈ wsX50, w ∈ wsX5_week := by decide +kernel
theorem wX5_week_19 : Cond.fieldLink RX5 19 "TandemExchange" "circle" "LTandemExchange$Circle;" ∈ wsX5_week := by decide +kernel
set_option maxRecDepth 100000 in
set_option maxHeartbeats 4000000 in
theorem bX5_week_0 {p : Program} {l : Launch} {e : Env} {s : State} {m : MethodId} {args : Array Value} {below : List Frame} {meth : Method} {c : Code} {D : va_G} {cy : Nat → ClassId} {ad : Nat → Nat} {ba : Nat → Prop} {O : Int64} {S : teS}  {x1 : Int32} {res : (Nat ⊕ (Int32 × teS))} (X : teC wsX5_week RX5 cX5_week 2 (some .int) D cy ba p s m args meth c) (hN : ∀ x ∈ c.exceptionTable.toList, False) (hl0 : l.stackTraces = false) (H : Heap) (locs : List Loc) (ls : Array Slot) (hR : teR D cy ad ba O S H) (hS : va_S (teA ba) s.heap H locs) (hl : lv_has ls 2 [(0, .ref (ad 360)), (1, .int x1)]) (hf : fX5_week x1 S = some res) : W p l e (headSpec wsX5_week rmX5_week).room s m args below meth c H locs 0 0 (vx_MQ below (va_Qi (fun a u => Sum.inr (a, u) = res) (fun u t => teR D cy ad ba O u t.heap) (teA ba)) (teXC D cy ad ba O S (fun c => Sum.inl c = res)) args s 1 6 (teA ba)) (F0 m 0 ls []) := by
  have hx := X.1
  have hb := X.2.1
  have hown := X.2.2.2.2.1
  unfold fX5_week at hf
  refine lv_iload_n hx hb dX5_week_0 rfl (lv_at hl 1 rfl) ?_
  refine lv_iconst (v := (0 : Int32)) hx hb dX5_week_1 (by decide) ?_
  refine lv_sipush (v := (511 : Int32)) hx hb dX5_week_2 (by decide) ?_
  rcases bx1_some hf with ⟨e_1, hq_2, hf⟩ | ⟨⟨⟩, hq_2, hf⟩
  · exact kSxl (As := [.int x1, .int (0 : Int32), .int (511 : Int32)]) (rest := []) X hN hR hS (zcX5_requireRange l D cy ad ba O S x1 (0 : Int32) (511 : Int32) hl0 _ hq_2) (va_cwS 3 X.2.2.2.2.2.1 gX5_week_X5_requireRange rfl rfl rfl kdX5_requireRange.2 ⟨(Nat.le_of_ble_eq_true rfl), (Nat.le_of_ble_eq_true rfl)⟩)  rfl rfl hl.1 (Nat.le_of_ble_eq_true rfl) ⟨(Nat.le_of_ble_eq_true rfl), (Nat.le_of_ble_eq_true rfl)⟩ (Nat.le_of_ble_eq_true rfl) (Nat.le_of_ble_eq_true rfl) dX5_week_5 hf.symm
  refine kSxr (As := [.int x1, .int (0 : Int32), .int (511 : Int32)]) (rest := []) X hR hS (znX5_requireRange l D cy ad ba O S x1 (0 : Int32) (511 : Int32) hq_2) (va_cwS 3 X.2.2.2.2.2.1 gX5_week_X5_requireRange rfl rfl rfl kdX5_requireRange.2 ⟨(Nat.le_of_ble_eq_true rfl), (Nat.le_of_ble_eq_true rfl)⟩)  rfl rfl hl.1 (Nat.le_of_ble_eq_true rfl) ⟨(Nat.le_of_ble_eq_true rfl), (Nat.le_of_ble_eq_true rfl)⟩ dX5_week_5 (fun H locs hR hS => ?_)
  refine lv_aload_n hx hb dX5_week_8 rfl (lv_at hl 0 rfl) ?_
  refine rg_5_3 X hR iX5_week_5 wX5_week_29 dX5_week_9 ?_
  refine lv_aload_n hx hb dX5_week_12 rfl (lv_at hl 0 rfl) ?_
  refine rg_5_1 X hR iX5_week_5 wX5_week_19 dX5_week_13 ?_
  obtain ⟨S1, hq_4, hf⟩ := bd1_some hf
  refine kVv (id := 363) (As := [.ref (ad (20 * 0))]) (rest := []) X hR hS (zcX2_remember l D cy ad ba O S 0 (by decide) _ hq_4) (cwV 1 X.2.2.2.2.2.1 gX5_week_X2_remember rfl rfl rfl kdX2_remember ⟨(Nat.le_of_ble_eq_true rfl), (Nat.le_of_ble_eq_true rfl)⟩) (by decide) rfl rfl rfl rfl hl.1 (Nat.le_of_ble_eq_true rfl) ⟨(Nat.le_of_ble_eq_true rfl), (Nat.le_of_ble_eq_true rfl)⟩ dX5_week_16 (fun H locs hR hS => ?_)
  refine lv_aload_n hx hb dX5_week_19 rfl (lv_at hl 0 rfl) ?_
  refine rg_5_1 X hR iX5_week_5 wX5_week_19 dX5_week_20 ?_
  refine lv_iload_n hx hb dX5_week_23 rfl (lv_at hl 1 rfl) ?_
  obtain ⟨S2, hq_6, hf⟩ := bd1_some hf
  refine kVv (id := (20 * 0)) (As := [.int x1]) (rest := []) X hR hS (zcX1_passWeek l D cy ad ba O S1 0 x1 (by decide) _ hq_6) (cwV 1 X.2.2.2.2.2.1 gX5_week_X1_passWeek rfl rfl rfl kdX1_passWeek ⟨(Nat.le_of_ble_eq_true rfl), (Nat.le_of_ble_eq_true rfl)⟩) (te_idc (by decide)) (teE_circ cy ad O S1 (by decide)) rfl rfl rfl hl.1 (Nat.le_of_ble_eq_true rfl) ⟨(Nat.le_of_ble_eq_true rfl), (Nat.le_of_ble_eq_true rfl)⟩ dX5_week_24 (fun H locs hR hS => ?_)
  refine lv_aload_n hx hb dX5_week_27 rfl (lv_at hl 0 rfl) ?_
  refine rg_5_1 X hR iX5_week_5 wX5_week_19 dX5_week_28 ?_
  obtain ⟨r_7, hq_8, hf⟩ := bd1_some hf
  refine kVi (id := (20 * 0)) (As := []) (rest := []) X hR hS (zcX1_countPairs l D cy ad ba O S2 0 (by decide) _ hq_8) (cwV 0 X.2.2.2.2.2.1 gX5_week_X1_countPairs rfl rfl rfl kdX1_countPairs ⟨(Nat.le_of_ble_eq_true rfl), (Nat.le_of_ble_eq_true rfl)⟩) (te_idc (by decide)) (teE_circ cy ad O S2 (by decide)) rfl rfl rfl hl.1 (Nat.le_of_ble_eq_true rfl) ⟨(Nat.le_of_ble_eq_true rfl), (Nat.le_of_ble_eq_true rfl)⟩ dX5_week_31 (fun H locs hR hS => ?_)
  exact eIx X hR hS (Option.some.inj hf) (Nat.le_of_ble_eq_true rfl) (Nat.le_of_ble_eq_true rfl) dX5_week_34
theorem zcX5_week (l : Launch) (D : va_G) (cy : Nat → ClassId) (ad : Nat → Nat) (ba : Nat → Prop) (O : Int64) (S : teS) (x1 : Int32) (hl0 : l.stackTraces = false) (res : (Nat ⊕ (Int32 × teS))) (hf : fX5_week x1 S = some res) : xQ l yX5_week wsX5_week rmX5_week 1 6 D cy ad ba O S [.ref (ad 360), .int x1] res :=
  te_ofx (by decide) rfl (Nat.le_of_ble_eq_true rfl) (fun p e s m below meth c ls X hN hR hS hl => bX5_week_0 (S := S) (x1 := x1) X hN hl0 _ _ _ hR hS hl hf)
abbrev rmX5_undo : Room := { frames := 6, cells := 1, slots := 6, locals := 124 }
theorem kdX5_undo : yX5_undo.cls = RX5 ∧ yX5_undo.cls ≠ "java/lang/invoke/MethodHandle" ∧ yX5_undo.cls ≠ "java/lang/invoke/VarHandle" ∧ (parseMethodDescriptor yX5_undo.desc).map (fun d => d.parameters.length) = some 0 := by decide +kernel
theorem wX5_undo_29 : Cond.fieldLink RX5 29 "TandemExchange" "history" "LTandemExchange$History;" ∈ wsX5_undo := by decide +kernel
theorem iX5_undo_5 : ∀ w ∈ wsX50, w ∈ wsX5_undo := by decide +kernel
theorem wX5_undo_195 : Cond.fieldLink RX5 195 "TandemExchange$History" "count" "I" ∈ wsX5_undo := by decide +kernel
theorem iX5_undo_2 : ∀ w ∈ wsX20, w ∈ wsX5_undo := by decide +kernel
theorem wX5_undo_19 : Cond.fieldLink RX5 19 "TandemExchange" "circle" "LTandemExchange$Circle;" ∈ wsX5_undo := by decide +kernel
theorem aX5_undo_60 : ∀ w ∈ (vx_atS RX5 60 "java/lang/IllegalStateException" ["java/lang/RuntimeException", "java/lang/Exception"]).filter goodWord, w ∈ wsX5_undo := by decide +kernel
theorem wX5_undo_k56 : Cond.classLink RX5 56 "java/lang/IllegalStateException" ∈ wsX5_undo := by decide +kernel
theorem wX5_undo_n56 : Cond.initialized "java/lang/IllegalStateException" ∈ wsX5_undo := by decide +kernel
set_option maxRecDepth 100000 in
set_option maxHeartbeats 4000000 in
theorem bX5_undo_0 {p : Program} {l : Launch} {e : Env} {s : State} {m : MethodId} {args : Array Value} {below : List Frame} {meth : Method} {c : Code} {D : va_G} {cy : Nat → ClassId} {ad : Nat → Nat} {ba : Nat → Prop} {O : Int64} {S : teS}  {res : (Nat ⊕ (Int32 × teS))} (X : teC wsX5_undo RX5 cX5_undo 1 (some .int) D cy ba p s m args meth c) (hN : ∀ x ∈ c.exceptionTable.toList, False) (hl0 : l.stackTraces = false) (H : Heap) (locs : List Loc) (ls : Array Slot) (hR : teR D cy ad ba O S H) (hS : va_S (teA ba) s.heap H locs) (hl : lv_has ls 1 [(0, .ref (ad 360))]) (hf : fX5_undo S = some res) : W p l e (headSpec wsX5_undo rmX5_undo).room s m args below meth c H locs 0 0 (vx_MQ below (va_Qi (fun a u => Sum.inr (a, u) = res) (fun u t => teR D cy ad ba O u t.heap) (teA ba)) (teXC D cy ad ba O S (fun c => Sum.inl c = res)) args s 1 6 (teA ba)) (F0 m 0 ls []) := by
  have hx := X.1
  have hb := X.2.1
  have hown := X.2.2.2.2.1
  unfold fX5_undo at hf
  refine lv_aload_n hx hb dX5_undo_0 rfl (lv_at hl 0 rfl) ?_
  refine rg_5_3 X hR iX5_undo_5 wX5_undo_29 dX5_undo_1 ?_
  refine rg_2_2 X hR iX5_undo_2 wX5_undo_195 dX5_undo_4 ?_
  refine lv_if_ne (tgt := 20) hx hb dX5_undo_7 (by decide) (fun c_1 => ?_) (fun c_1 => ?_)
  · replace hf := ite_f c_1 hf
    refine lv_aload_n hx hb dX5_undo_20 rfl (lv_at hl 0 rfl) ?_
    refine rg_5_3 X hR iX5_undo_5 wX5_undo_29 dX5_undo_21 ?_
    refine lv_aload_n hx hb dX5_undo_24 rfl (lv_at hl 0 rfl) ?_
    refine rg_5_1 X hR iX5_undo_5 wX5_undo_19 dX5_undo_25 ?_
    obtain ⟨S1, hq_3, hf⟩ := bd1_some hf
    refine kVv (id := 363) (As := [.ref (ad (20 * 0))]) (rest := []) X hR hS (zcX2_takeBack l D cy ad ba O S 0 (by decide) _ hq_3) (cwV 1 X.2.2.2.2.2.1 gX5_undo_X2_takeBack rfl rfl rfl kdX2_takeBack ⟨(Nat.le_of_ble_eq_true rfl), (Nat.le_of_ble_eq_true rfl)⟩) (by decide) rfl rfl rfl rfl hl.1 (Nat.le_of_ble_eq_true rfl) ⟨(Nat.le_of_ble_eq_true rfl), (Nat.le_of_ble_eq_true rfl)⟩ dX5_undo_28 (fun H locs hR hS => ?_)
    refine lv_aload_n hx hb dX5_undo_31 rfl (lv_at hl 0 rfl) ?_
    refine rg_5_3 X hR iX5_undo_5 wX5_undo_29 dX5_undo_32 ?_
    refine rg_2_2 X hR iX5_undo_2 wX5_undo_195 dX5_undo_35 ?_
    exact eIx X hR hS (Option.some.inj hf) (Nat.le_of_ble_eq_true rfl) (Nat.le_of_ble_eq_true rfl) dX5_undo_38
  · replace hf := ite_t c_1 hf
    exact te_thr X hN hl0 hR hS hl.1 rfl (by decide +kernel) wX5_undo_k56 wX5_undo_n56 (text := "no state is remembered") (c0 := 2) (by decide +kernel) aX5_undo_60 tx_RX5_56_60_n tx_RX5_56_60_g X.2.2.2.2.2.2.2.2.2.2.1.2.1 dX5_undo_10 dX5_undo_13 dX5_undo_14 dX5_undo_16 dX5_undo_19 (Nat.le_of_ble_eq_true rfl) (Nat.le_of_ble_eq_true rfl) (Nat.le_of_ble_eq_true rfl) (Nat.le_of_ble_eq_true rfl) (Nat.le_of_ble_eq_true rfl) (Nat.le_of_ble_eq_true rfl) rfl (Option.some.inj hf)
theorem zcX5_undo (l : Launch) (D : va_G) (cy : Nat → ClassId) (ad : Nat → Nat) (ba : Nat → Prop) (O : Int64) (S : teS) (hl0 : l.stackTraces = false) (res : (Nat ⊕ (Int32 × teS))) (hf : fX5_undo S = some res) : xQ l yX5_undo wsX5_undo rmX5_undo 1 6 D cy ad ba O S [.ref (ad 360)] res :=
  te_ofx (by decide) rfl (Nat.le_of_ble_eq_true rfl) (fun p e s m below meth c ls X hN hR hS hl => bX5_undo_0 (S := S)  X hN hl0 _ _ _ hR hS hl hf)
abbrev rmX5_blocking : Room := { frames := 6, cells := 1, slots := 6, locals := 91 }
theorem kdX5_blocking : yX5_blocking.cls = RX5 ∧ yX5_blocking.cls ≠ "java/lang/invoke/MethodHandle" ∧ yX5_blocking.cls ≠ "java/lang/invoke/VarHandle" ∧ (parseMethodDescriptor yX5_blocking.desc).map (fun d => d.parameters.length) = some 2 := by decide +kernel
theorem aX5_blocking_105 : ∀ w ∈ (vx_atS RX5 105 "java/lang/IllegalArgumentException" ["java/lang/RuntimeException", "java/lang/Exception"]).filter goodWord, w ∈ wsX5_blocking := by decide +kernel
theorem wX5_blocking_k101 : Cond.classLink RX5 101 "java/lang/IllegalArgumentException" ∈ wsX5_blocking := by decide +kernel
theorem wX5_blocking_n101 : Cond.initialized "java/lang/IllegalArgumentException" ∈ wsX5_blocking := by decide +kernel
theorem wX5_blocking_19 : Cond.fieldLink RX5 19 "TandemExchange" "circle" "LTandemExchange$Circle;" ∈ wsX5_blocking := by decide +kernel
theorem iX5_blocking_5 : ∀ w ∈ wsX50, w ∈ wsX5_blocking := by decide +kernel
theorem wX5_blocking_80 : Cond.fieldLink RX5 80 "TandemExchange$Circle" "size" "I" ∈ wsX5_blocking := by decide +kernel
theorem iX5_blocking_1 : ∀ w ∈ wsX10, w ∈ wsX5_blocking := by decide +kernel
set_option maxRecDepth 100000 in
set_option maxHeartbeats 4000000 in
theorem bX5_blocking_37 {p : Program} {l : Launch} {e : Env} {s : State} {m : MethodId} {args : Array Value} {below : List Frame} {meth : Method} {c : Code} {D : va_G} {cy : Nat → ClassId} {ad : Nat → Nat} {ba : Nat → Prop} {O : Int64} {S : teS}  {x1 : Int32} {x2 : Int32} {res : (Nat ⊕ (Int32 × teS))} (X : teC wsX5_blocking RX5 cX5_blocking 6 (some .int) D cy ba p s m args meth c) (hN : ∀ x ∈ c.exceptionTable.toList, False) (hl0 : l.stackTraces = false) {q19 : teS → Int32 → Int32 → Option (Nat ⊕ (Int32 × teS))} (hq19 : ∀  (v3 : Int32) (v4 : Int32) (H : Heap) (locs : List Loc) (ls : Array Slot), teR D cy ad ba O S H → va_S (teA ba) s.heap H locs → lv_has ls 6 [(0, .ref (ad 360)), (2, .int x2), (3, .int v3), (4, .int v4)] → q19 S v3 v4 = some res → W p l e (headSpec wsX5_blocking rmX5_blocking).room s m args below meth c H locs 1 6 (vx_MQ below (va_Qi (fun a u => Sum.inr (a, u) = res) (fun u t => teR D cy ad ba O u t.heap) (teA ba)) (teXC D cy ad ba O S (fun c => Sum.inl c = res)) args s 1 6 (teA ba)) (F0 m 19 ls [])) : ∀ (n : Nat), ∀  (v3 : Int32) (v4 : Int32) (v5 : Int32) (H : Heap) (locs : List Loc) (ls : Array Slot), teR D cy ad ba O S H → va_S (teA ba) s.heap H locs → lv_has ls 6 [(0, .ref (ad 360)), (2, .int x2), (3, .int v3), (4, .int v4), (5, .int v5)] → fX5_blocking_37 x1 x2 q19 n S v3 v4 v5 = some res → W p l e (headSpec wsX5_blocking rmX5_blocking).room s m args below meth c H locs 1 6 (vx_MQ below (va_Qi (fun a u => Sum.inr (a, u) = res) (fun u t => teR D cy ad ba O u t.heap) (teA ba)) (teXC D cy ad ba O S (fun c => Sum.inl c = res)) args s 1 6 (teA ba)) (F0 m 37 ls []) := by
  have hx := X.1
  have hb := X.2.1
  have hown := X.2.2.2.2.1
  intro n
  induction n with
  | zero =>
    intro v3 v4 v5 H locs ls hR hS hl hf
    exact nomatch hf
  | succ n ih =>
    intro v3 v4 v5 H locs ls hR hS hl hf
    unfold fX5_blocking_37 at hf
    refine lv_iload hx hb dX5_blocking_37 (lv_at hl 4 rfl) ?_
    refine lv_aload_n hx hb dX5_blocking_39 rfl (lv_at hl 0 rfl) ?_
    refine rg_5_1 X hR iX5_blocking_5 wX5_blocking_19 dX5_blocking_40 ?_
    refine rg_1_1 X hR (by decide) iX5_blocking_1 wX5_blocking_80 dX5_blocking_43 ?_
    refine lv_icmp_ge (tgt := 88) hx hb dX5_blocking_46 (by decide) (fun c_3 => ?_) (fun c_3 => ?_)
    · replace hf := ite_t c_3 hf
      refine lv_iinc (v := (v4 + (1 : Int32))) (lv' := [(4, .int (v4 + (1 : Int32))), (0, .ref (ad 360)), (2, .int x2), (3, .int v3), (5, .int v5)]) hx hb dX5_blocking_88 hl (k := 3) rfl rfl (by decide) rfl (fun ls hl => ?_)
      refine lv_goto (tgt := 19) hx hb dX5_blocking_91 (by decide) ?_
      exact hq19 (v3) ((v4 + (1 : Int32))) _ _ _ hR hS (lv_sub hl [1, 2, 3, 0] rfl) hf
    · replace hf := ite_f c_3 hf
      refine lv_aload_n hx hb dX5_blocking_49 rfl (lv_at hl 0 rfl) ?_
      refine rg_5_1 X hR iX5_blocking_5 wX5_blocking_19 dX5_blocking_50 ?_
      refine lv_iload hx hb dX5_blocking_53 (lv_at hl 3 rfl) ?_
      refine lv_iload hx hb dX5_blocking_55 (lv_at hl 4 rfl) ?_
      obtain ⟨r_4, hq_5, hf⟩ := bd1_some hf
      refine kVi (id := (20 * 0)) (As := [.int v4, .int v5]) (rest := []) X hR hS (zcX1_block l D cy ad ba O S 0 v4 v5 (by decide) _ hq_5) (cwV 2 X.2.2.2.2.2.1 gX5_blocking_X1_block rfl rfl rfl kdX1_block ⟨(Nat.le_of_ble_eq_true rfl), (Nat.le_of_ble_eq_true rfl)⟩) (te_idc (by decide)) (teE_circ cy ad O S (by decide)) rfl rfl rfl hl.1 (Nat.le_of_ble_eq_true rfl) ⟨(Nat.le_of_ble_eq_true rfl), (Nat.le_of_ble_eq_true rfl)⟩ dX5_blocking_57 (fun H locs hR hS => ?_)
      refine lv_if_eq (tgt := 82) hx hb dX5_blocking_60 (by decide) (fun c_6 => ?_) (fun c_6 => ?_)
      · replace hf := ite_t c_6 hf
        refine lv_iinc (v := (v5 + (1 : Int32))) (lv' := [(5, .int (v5 + (1 : Int32))), (0, .ref (ad 360)), (2, .int x2), (3, .int v3), (4, .int v4)]) hx hb dX5_blocking_82 hl (k := 4) rfl rfl (by decide) rfl (fun ls hl => ?_)
        refine lv_goto (tgt := 37) hx hb dX5_blocking_85 (by decide) ?_
        exact ih (v3) (v4) ((v5 + (1 : Int32))) _ _ _ hR hS (lv_sub hl [1, 2, 3, 4, 0] rfl) hf
      · replace hf := ite_f c_6 hf
        refine lv_iload_n hx hb dX5_blocking_63 rfl (lv_at hl 2 rfl) ?_
        refine lv_if_ne (tgt := 79) hx hb dX5_blocking_64 (by decide) (fun c_7 => ?_) (fun c_7 => ?_)
        · replace hf := ite_f c_7 hf
          refine lv_iinc (v := (v3 + (-1 : Int32))) (lv' := [(3, .int (v3 + (-1 : Int32))), (0, .ref (ad 360)), (2, .int x2), (4, .int v4), (5, .int v5)]) hx hb dX5_blocking_79 hl (k := 2) rfl rfl (by decide) rfl (fun ls hl => ?_)
          refine lv_iinc (v := (v5 + (1 : Int32))) (lv' := [(5, .int (v5 + (1 : Int32))), (3, .int (v3 + (-1 : Int32))), (0, .ref (ad 360)), (2, .int x2), (4, .int v4)]) hx hb dX5_blocking_82 hl (k := 4) rfl rfl (by decide) rfl (fun ls hl => ?_)
          refine lv_goto (tgt := 37) hx hb dX5_blocking_85 (by decide) ?_
          exact ih ((v3 + (-1 : Int32))) (v4) ((v5 + (1 : Int32))) _ _ _ hR hS (lv_sub hl [2, 3, 1, 4, 0] rfl) hf
        · replace hf := ite_t c_7 hf
          refine lv_iload_n hx hb dX5_blocking_67 rfl (lv_at hl 1 rfl) ?_
          refine lv_if_eq (tgt := 76) hx hb dX5_blocking_68 (by decide) (fun c_8 => ?_) (fun c_8 => ?_)
          · replace hf := ite_t c_8 hf
            refine lv_iload hx hb dX5_blocking_76 (lv_at hl 3 rfl) ?_
            exact eIx X hR hS (Option.some.inj hf) (Nat.le_of_ble_eq_true rfl) (Nat.le_of_ble_eq_true rfl) dX5_blocking_78
          · replace hf := ite_f c_8 hf
            refine lv_iload hx hb dX5_blocking_71 (lv_at hl 4 rfl) ?_
            refine lv_goto (tgt := 78) hx hb dX5_blocking_73 (by decide) ?_
            exact eIx X hR hS (Option.some.inj hf) (Nat.le_of_ble_eq_true rfl) (Nat.le_of_ble_eq_true rfl) dX5_blocking_78
set_option maxRecDepth 100000 in
set_option maxHeartbeats 4000000 in
theorem bX5_blocking_19 {p : Program} {l : Launch} {e : Env} {s : State} {m : MethodId} {args : Array Value} {below : List Frame} {meth : Method} {c : Code} {D : va_G} {cy : Nat → ClassId} {ad : Nat → Nat} {ba : Nat → Prop} {O : Int64} {S : teS}  {x1 : Int32} {x2 : Int32} {res : (Nat ⊕ (Int32 × teS))} (X : teC wsX5_blocking RX5 cX5_blocking 6 (some .int) D cy ba p s m args meth c) (hN : ∀ x ∈ c.exceptionTable.toList, False) (hl0 : l.stackTraces = false) : ∀ (n : Nat), ∀  (v3 : Int32) (v4 : Int32) (H : Heap) (locs : List Loc) (ls : Array Slot), teR D cy ad ba O S H → va_S (teA ba) s.heap H locs → lv_has ls 6 [(0, .ref (ad 360)), (2, .int x2), (3, .int v3), (4, .int v4)] → fX5_blocking_19 x1 x2 n S v3 v4 = some res → W p l e (headSpec wsX5_blocking rmX5_blocking).room s m args below meth c H locs 1 6 (vx_MQ below (va_Qi (fun a u => Sum.inr (a, u) = res) (fun u t => teR D cy ad ba O u t.heap) (teA ba)) (teXC D cy ad ba O S (fun c => Sum.inl c = res)) args s 1 6 (teA ba)) (F0 m 19 ls []) := by
  have hx := X.1
  have hb := X.2.1
  have hown := X.2.2.2.2.1
  intro n
  induction n with
  | zero =>
    intro v3 v4 H locs ls hR hS hl hf
    exact nomatch hf
  | succ n ih =>
    intro v3 v4 H locs ls hR hS hl hf
    unfold fX5_blocking_19 at hf
    refine lv_iload hx hb dX5_blocking_19 (lv_at hl 3 rfl) ?_
    refine lv_aload_n hx hb dX5_blocking_21 rfl (lv_at hl 0 rfl) ?_
    refine rg_5_1 X hR iX5_blocking_5 wX5_blocking_19 dX5_blocking_22 ?_
    refine rg_1_1 X hR (by decide) iX5_blocking_1 wX5_blocking_80 dX5_blocking_25 ?_
    refine lv_icmp_ge (tgt := 94) hx hb dX5_blocking_28 (by decide) (fun c_2 => ?_) (fun c_2 => ?_)
    · replace hf := ite_t c_2 hf
      refine lv_sipush (v := (-9999 : Int32)) hx hb dX5_blocking_94 (by decide) ?_
      exact eIx X hR hS (Option.some.inj hf) (Nat.le_of_ble_eq_true rfl) (Nat.le_of_ble_eq_true rfl) dX5_blocking_97
    · replace hf := ite_f c_2 hf
      refine lv_iload hx hb dX5_blocking_31 (lv_at hl 3 rfl) ?_
      refine lv_iconst (v := (1 : Int32)) hx hb dX5_blocking_33 (by decide) ?_
      refine lv_iadd hx hb dX5_blocking_34 ?_
      refine lv_istore (lv' := [(5, .int (v4 + (1 : Int32))), (0, .ref (ad 360)), (2, .int x2), (3, .int v3), (4, .int v4)]) hx hb dX5_blocking_35 hl (by decide) rfl (fun ls hl => ?_)
      exact bX5_blocking_37 (S := S) (x1 := x1) (x2 := x2) X hN hl0 ih 2000 (v3) (v4) ((v4 + (1 : Int32))) _ _ _ hR hS (lv_sub hl [1, 2, 3, 4, 0] rfl) hf
set_option maxRecDepth 100000 in
set_option maxHeartbeats 4000000 in
theorem bX5_blocking_0 {p : Program} {l : Launch} {e : Env} {s : State} {m : MethodId} {args : Array Value} {below : List Frame} {meth : Method} {c : Code} {D : va_G} {cy : Nat → ClassId} {ad : Nat → Nat} {ba : Nat → Prop} {O : Int64} {S : teS}  {x1 : Int32} {x2 : Int32} {res : (Nat ⊕ (Int32 × teS))} (X : teC wsX5_blocking RX5 cX5_blocking 6 (some .int) D cy ba p s m args meth c) (hN : ∀ x ∈ c.exceptionTable.toList, False) (hl0 : l.stackTraces = false) (H : Heap) (locs : List Loc) (ls : Array Slot) (hR : teR D cy ad ba O S H) (hS : va_S (teA ba) s.heap H locs) (hl : lv_has ls 6 [(0, .ref (ad 360)), (1, .int x1), (2, .int x2)]) (hf : fX5_blocking x1 x2 S = some res) : W p l e (headSpec wsX5_blocking rmX5_blocking).room s m args below meth c H locs 0 0 (vx_MQ below (va_Qi (fun a u => Sum.inr (a, u) = res) (fun u t => teR D cy ad ba O u t.heap) (teA ba)) (teXC D cy ad ba O S (fun c => Sum.inl c = res)) args s 1 6 (teA ba)) (F0 m 0 ls []) := by
  have hx := X.1
  have hb := X.2.1
  have hown := X.2.2.2.2.1
  unfold fX5_blocking at hf
  refine lv_iload_n hx hb dX5_blocking_0 rfl (lv_at hl 1 rfl) ?_
  refine lv_if_ge (tgt := 14) hx hb dX5_blocking_1 (by decide) (fun c_1 => ?_) (fun c_1 => ?_)
  · replace hf := ite_t c_1 hf
    refine lv_iload_n hx hb dX5_blocking_14 rfl (lv_at hl 1 rfl) ?_
    refine lv_istore_n (lv' := [(3, .int x1), (0, .ref (ad 360)), (1, .int x1), (2, .int x2)]) hx hb dX5_blocking_15 rfl hl (by decide) rfl (fun ls hl => ?_)
    refine lv_iconst (v := (0 : Int32)) hx hb dX5_blocking_16 (by decide) ?_
    refine lv_istore (lv' := [(4, .int (0 : Int32)), (3, .int x1), (0, .ref (ad 360)), (1, .int x1), (2, .int x2)]) hx hb dX5_blocking_17 hl (by decide) rfl (fun ls hl => ?_)
    refine W.widen (k := 1) (n := 6) (Nat.le_of_ble_eq_true rfl) (Nat.le_of_ble_eq_true rfl) ?_
    exact bX5_blocking_19 (S := S) (x1 := x1) (x2 := x2) X hN hl0 2000 (x1) ((0 : Int32)) _ _ _ hR hS (lv_sub hl [2, 4, 1, 0] rfl) hf
  · replace hf := ite_f c_1 hf
    exact te_thr X hN hl0 hR hS hl.1 rfl (by decide +kernel) wX5_blocking_k101 wX5_blocking_n101 (text := "i is negative") (c0 := 1) (by decide +kernel) aX5_blocking_105 tx_RX5_101_105_n tx_RX5_101_105_g X.2.2.2.2.2.2.2.2.2.2.1.1 dX5_blocking_4 dX5_blocking_7 dX5_blocking_8 dX5_blocking_10 dX5_blocking_13 (Nat.le_of_ble_eq_true rfl) (Nat.le_of_ble_eq_true rfl) (Nat.le_of_ble_eq_true rfl) (Nat.le_of_ble_eq_true rfl) (Nat.le_of_ble_eq_true rfl) (Nat.le_of_ble_eq_true rfl) rfl (Option.some.inj hf)
theorem zcX5_blocking (l : Launch) (D : va_G) (cy : Nat → ClassId) (ad : Nat → Nat) (ba : Nat → Prop) (O : Int64) (S : teS) (x1 : Int32) (x2 : Int32) (hl0 : l.stackTraces = false) (res : (Nat ⊕ (Int32 × teS))) (hf : fX5_blocking x1 x2 S = some res) : xQ l yX5_blocking wsX5_blocking rmX5_blocking 1 6 D cy ad ba O S [.ref (ad 360), .int x1, .int x2] res :=
  te_ofx (by decide) rfl (Nat.le_of_ble_eq_true rfl) (fun p e s m below meth c ls X hN hR hS hl => bX5_blocking_0 (S := S) (x1 := x1) (x2 := x2) X hN hl0 _ _ _ hR hS hl hf)
abbrev rmX5_bestPartner : Room := { frames := 7, cells := 1, slots := 6, locals := 111 }
theorem kdX5_bestPartner : yX5_bestPartner.cls = RX5 ∧ yX5_bestPartner.cls ≠ "java/lang/invoke/MethodHandle" ∧ yX5_bestPartner.cls ≠ "java/lang/invoke/VarHandle" ∧ (parseMethodDescriptor yX5_bestPartner.desc).map (fun d => d.parameters.length) = some 2 := by decide +kernel
theorem wX5_bestPartner_19 : Cond.fieldLink RX5 19 "TandemExchange" "circle" "LTandemExchange$Circle;" ∈ wsX5_bestPartner := by decide +kernel
theorem iX5_bestPartner_5 : ∀ w ∈ wsX50, w ∈ wsX5_bestPartner := by decide +kernel
theorem wX5_bestPartner_80 : Cond.fieldLink RX5 80 "TandemExchange$Circle" "size" "I" ∈ wsX5_bestPartner := by decide +kernel
theorem iX5_bestPartner_1 : ∀ w ∈ wsX10, w ∈ wsX5_bestPartner := by decide +kernel
set_option maxRecDepth 100000 in
set_option maxHeartbeats 4000000 in
theorem bX5_bestPartner_56 {p : Program} {l : Launch} {e : Env} {s : State} {m : MethodId} {args : Array Value} {below : List Frame} {meth : Method} {c : Code} {D : va_G} {cy : Nat → ClassId} {ad : Nat → Nat} {ba : Nat → Prop} {O : Int64} {S : teS}  {x1 : Int32} {x2 : Int32} {res : (Nat ⊕ (Int32 × teS))} (X : teC wsX5_bestPartner RX5 cX5_bestPartner 7 (some .int) D cy ba p s m args meth c) (hN : ∀ x ∈ c.exceptionTable.toList, False) (hl0 : l.stackTraces = false) {q15 : teS → Int32 → Int32 → Int32 → Option (Nat ⊕ (Int32 × teS))} (hq15 : ∀  (v3 : Int32) (v4 : Int32) (v5 : Int32) (H : Heap) (locs : List Loc) (ls : Array Slot), teR D cy ad ba O S H → va_S (teA ba) s.heap H locs → lv_has ls 7 [(0, .ref (ad 360)), (1, .int x1), (2, .int x2), (3, .int v3), (4, .int v4), (5, .int v5)] → q15 S v3 v4 v5 = some res → W p l e (headSpec wsX5_bestPartner rmX5_bestPartner).room s m args below meth c H locs 1 6 (vx_MQ below (va_Qi (fun a u => Sum.inr (a, u) = res) (fun u t => teR D cy ad ba O u t.heap) (teA ba)) (teXC D cy ad ba O S (fun c => Sum.inl c = res)) args s 1 6 (teA ba)) (F0 m 15 ls [])) : ∀  (v3 : Int32) (v4 : Int32) (v5 : Int32) (H : Heap) (locs : List Loc) (ls : Array Slot), teR D cy ad ba O S H → va_S (teA ba) s.heap H locs → lv_has ls 7 [(0, .ref (ad 360)), (1, .int x1), (2, .int x2), (3, .int v3), (4, .int v4), (5, .int v5)] → fX5_bestPartner_56 x1 x2 q15 S v3 v4 v5 = some res → W p l e (headSpec wsX5_bestPartner rmX5_bestPartner).room s m args below meth c H locs 1 6 (vx_MQ below (va_Qi (fun a u => Sum.inr (a, u) = res) (fun u t => teR D cy ad ba O u t.heap) (teA ba)) (teXC D cy ad ba O S (fun c => Sum.inl c = res)) args s 1 6 (teA ba)) (F0 m 56 ls []) := by
  have hx := X.1
  have hb := X.2.1
  have hown := X.2.2.2.2.1
  intro v3 v4 v5 H locs ls hR hS hl hf
  unfold fX5_bestPartner_56 at hf
  refine lv_aload_n hx hb dX5_bestPartner_56 rfl (lv_at hl 0 rfl) ?_
  refine rg_5_1 X hR iX5_bestPartner_5 wX5_bestPartner_19 dX5_bestPartner_57 ?_
  refine lv_iload_n hx hb dX5_bestPartner_60 rfl (lv_at hl 1 rfl) ?_
  refine lv_iload hx hb dX5_bestPartner_61 (lv_at hl 5 rfl) ?_
  obtain ⟨r_11, hq_12, hf⟩ := bd1_some hf
  refine kVi (id := (20 * 0)) (As := [.int x1, .int v5]) (rest := []) X hR hS (zcX1_score l D cy ad ba O S 0 x1 v5 (by decide) _ hq_12) (cwV 2 X.2.2.2.2.2.1 gX5_bestPartner_X1_score rfl rfl rfl kdX1_score ⟨(Nat.le_of_ble_eq_true rfl), (Nat.le_of_ble_eq_true rfl)⟩) (te_idc (by decide)) (teE_circ cy ad O S (by decide)) rfl rfl rfl hl.1 (Nat.le_of_ble_eq_true rfl) ⟨(Nat.le_of_ble_eq_true rfl), (Nat.le_of_ble_eq_true rfl)⟩ dX5_bestPartner_63 (fun H locs hR hS => ?_)
  refine lv_istore (lv' := [(6, .int r_11), (0, .ref (ad 360)), (1, .int x1), (2, .int x2), (3, .int v3), (4, .int v4), (5, .int v5)]) hx hb dX5_bestPartner_66 hl (by decide) rfl (fun ls hl => ?_)
  refine lv_iload_n hx hb dX5_bestPartner_68 rfl (lv_at hl 4 rfl) ?_
  refine lv_sipush (v := (-9999 : Int32)) hx hb dX5_bestPartner_69 (by decide) ?_
  refine lv_icmp_eq (tgt := 82) hx hb dX5_bestPartner_72 (by decide) (fun c_13 => ?_) (fun c_13 => ?_)
  · replace hf := ite_t c_13 hf
    refine lv_iload hx hb dX5_bestPartner_82 (lv_at hl 6 rfl) ?_
    refine lv_istore_n (lv' := [(3, .int v5), (6, .int r_11), (0, .ref (ad 360)), (1, .int x1), (2, .int x2), (4, .int v4), (5, .int v5)]) hx hb dX5_bestPartner_84 rfl hl (by decide) rfl (fun ls hl => ?_)
    refine lv_iload hx hb dX5_bestPartner_85 (lv_at hl 1 rfl) ?_
    refine lv_istore (lv' := [(4, .int r_11), (3, .int v5), (6, .int r_11), (0, .ref (ad 360)), (1, .int x1), (2, .int x2), (5, .int v5)]) hx hb dX5_bestPartner_87 hl (by decide) rfl (fun ls hl => ?_)
    refine lv_iinc (v := (v5 + (1 : Int32))) (lv' := [(5, .int (v5 + (1 : Int32))), (4, .int r_11), (3, .int v5), (6, .int r_11), (0, .ref (ad 360)), (1, .int x1), (2, .int x2)]) hx hb dX5_bestPartner_89 hl (k := 6) rfl rfl (by decide) rfl (fun ls hl => ?_)
    refine lv_goto (tgt := 15) hx hb dX5_bestPartner_92 (by decide) ?_
    exact hq15 (v5) (r_11) ((v5 + (1 : Int32))) _ _ _ hR hS (lv_sub hl [4, 5, 6, 2, 1, 0] rfl) hf
  · replace hf := ite_f c_13 hf
    refine lv_iload hx hb dX5_bestPartner_75 (lv_at hl 0 rfl) ?_
    refine lv_iload hx hb dX5_bestPartner_77 (lv_at hl 5 rfl) ?_
    refine lv_icmp_le (tgt := 89) hx hb dX5_bestPartner_79 (by decide) (fun c_14 => ?_) (fun c_14 => ?_)
    · replace hf := ite_t c_14 hf
      refine lv_iinc (v := (v5 + (1 : Int32))) (lv' := [(5, .int (v5 + (1 : Int32))), (6, .int r_11), (0, .ref (ad 360)), (1, .int x1), (2, .int x2), (3, .int v3), (4, .int v4)]) hx hb dX5_bestPartner_89 hl (k := 6) rfl rfl (by decide) rfl (fun ls hl => ?_)
      refine lv_goto (tgt := 15) hx hb dX5_bestPartner_92 (by decide) ?_
      exact hq15 (v3) (v4) ((v5 + (1 : Int32))) _ _ _ hR hS (lv_sub hl [2, 3, 4, 5, 6, 0] rfl) hf
    · replace hf := ite_f c_14 hf
      refine lv_iload hx hb dX5_bestPartner_82 (lv_at hl 6 rfl) ?_
      refine lv_istore_n (lv' := [(3, .int v5), (6, .int r_11), (0, .ref (ad 360)), (1, .int x1), (2, .int x2), (4, .int v4), (5, .int v5)]) hx hb dX5_bestPartner_84 rfl hl (by decide) rfl (fun ls hl => ?_)
      refine lv_iload hx hb dX5_bestPartner_85 (lv_at hl 1 rfl) ?_
      refine lv_istore (lv' := [(4, .int r_11), (3, .int v5), (6, .int r_11), (0, .ref (ad 360)), (1, .int x1), (2, .int x2), (5, .int v5)]) hx hb dX5_bestPartner_87 hl (by decide) rfl (fun ls hl => ?_)
      refine lv_iinc (v := (v5 + (1 : Int32))) (lv' := [(5, .int (v5 + (1 : Int32))), (4, .int r_11), (3, .int v5), (6, .int r_11), (0, .ref (ad 360)), (1, .int x1), (2, .int x2)]) hx hb dX5_bestPartner_89 hl (k := 6) rfl rfl (by decide) rfl (fun ls hl => ?_)
      refine lv_goto (tgt := 15) hx hb dX5_bestPartner_92 (by decide) ?_
      exact hq15 (v5) (r_11) ((v5 + (1 : Int32))) _ _ _ hR hS (lv_sub hl [4, 5, 6, 2, 1, 0] rfl) hf
set_option maxRecDepth 100000 in
set_option maxHeartbeats 4000000 in
theorem bX5_bestPartner_15 {p : Program} {l : Launch} {e : Env} {s : State} {m : MethodId} {args : Array Value} {below : List Frame} {meth : Method} {c : Code} {D : va_G} {cy : Nat → ClassId} {ad : Nat → Nat} {ba : Nat → Prop} {O : Int64} {S : teS}  {x1 : Int32} {x2 : Int32} {res : (Nat ⊕ (Int32 × teS))} (X : teC wsX5_bestPartner RX5 cX5_bestPartner 7 (some .int) D cy ba p s m args meth c) (hN : ∀ x ∈ c.exceptionTable.toList, False) (hl0 : l.stackTraces = false) : ∀ (n : Nat), ∀  (v3 : Int32) (v4 : Int32) (v5 : Int32) (H : Heap) (locs : List Loc) (ls : Array Slot), teR D cy ad ba O S H → va_S (teA ba) s.heap H locs → lv_has ls 7 [(0, .ref (ad 360)), (1, .int x1), (2, .int x2), (3, .int v3), (4, .int v4), (5, .int v5)] → fX5_bestPartner_15 x1 x2 n S v3 v4 v5 = some res → W p l e (headSpec wsX5_bestPartner rmX5_bestPartner).room s m args below meth c H locs 1 6 (vx_MQ below (va_Qi (fun a u => Sum.inr (a, u) = res) (fun u t => teR D cy ad ba O u t.heap) (teA ba)) (teXC D cy ad ba O S (fun c => Sum.inl c = res)) args s 1 6 (teA ba)) (F0 m 15 ls []) := by
  have hx := X.1
  have hb := X.2.1
  have hown := X.2.2.2.2.1
  intro n
  induction n with
  | zero =>
    intro v3 v4 v5 H locs ls hR hS hl hf
    exact nomatch hf
  | succ n ih =>
    intro v3 v4 v5 H locs ls hR hS hl hf
    unfold fX5_bestPartner_15 at hf
    refine lv_iload hx hb dX5_bestPartner_15 (lv_at hl 5 rfl) ?_
    refine lv_aload_n hx hb dX5_bestPartner_17 rfl (lv_at hl 0 rfl) ?_
    refine rg_5_1 X hR iX5_bestPartner_5 wX5_bestPartner_19 dX5_bestPartner_18 ?_
    refine rg_1_1 X hR (by decide) iX5_bestPartner_1 wX5_bestPartner_80 dX5_bestPartner_21 ?_
    refine lv_icmp_ge (tgt := 95) hx hb dX5_bestPartner_24 (by decide) (fun c_3 => ?_) (fun c_3 => ?_)
    · replace hf := ite_t c_3 hf
      refine lv_iload_n hx hb dX5_bestPartner_95 rfl (lv_at hl 3 rfl) ?_
      exact eIx X hR hS (Option.some.inj hf) (Nat.le_of_ble_eq_true rfl) (Nat.le_of_ble_eq_true rfl) dX5_bestPartner_96
    · replace hf := ite_f c_3 hf
      refine lv_aload_n hx hb dX5_bestPartner_27 rfl (lv_at hl 0 rfl) ?_
      refine rg_5_1 X hR iX5_bestPartner_5 wX5_bestPartner_19 dX5_bestPartner_28 ?_
      refine lv_iload_n hx hb dX5_bestPartner_31 rfl (lv_at hl 1 rfl) ?_
      refine lv_iload hx hb dX5_bestPartner_32 (lv_at hl 5 rfl) ?_
      obtain ⟨r_4, hq_5, hf⟩ := bd1_some hf
      refine kVi (id := (20 * 0)) (As := [.int x1, .int v5]) (rest := []) X hR hS (zcX1_fit l D cy ad ba O S 0 x1 v5 (by decide) _ hq_5) (cwV 2 X.2.2.2.2.2.1 gX5_bestPartner_X1_fit rfl rfl rfl kdX1_fit ⟨(Nat.le_of_ble_eq_true rfl), (Nat.le_of_ble_eq_true rfl)⟩) (te_idc (by decide)) (teE_circ cy ad O S (by decide)) rfl rfl rfl hl.1 (Nat.le_of_ble_eq_true rfl) ⟨(Nat.le_of_ble_eq_true rfl), (Nat.le_of_ble_eq_true rfl)⟩ dX5_bestPartner_34 (fun H locs hR hS => ?_)
      refine lv_if_eq (tgt := 89) hx hb dX5_bestPartner_37 (by decide) (fun c_6 => ?_) (fun c_6 => ?_)
      · replace hf := ite_t c_6 hf
        refine lv_iinc (v := (v5 + (1 : Int32))) (lv' := [(5, .int (v5 + (1 : Int32))), (0, .ref (ad 360)), (1, .int x1), (2, .int x2), (3, .int v3), (4, .int v4)]) hx hb dX5_bestPartner_89 hl (k := 5) rfl rfl (by decide) rfl (fun ls hl => ?_)
        refine lv_goto (tgt := 15) hx hb dX5_bestPartner_92 (by decide) ?_
        exact ih (v3) (v4) ((v5 + (1 : Int32))) _ _ _ hR hS (lv_sub hl [1, 2, 3, 4, 5, 0] rfl) hf
      · replace hf := ite_f c_6 hf
        refine lv_iload_n hx hb dX5_bestPartner_40 rfl (lv_at hl 2 rfl) ?_
        refine lv_if_eq (tgt := 56) hx hb dX5_bestPartner_41 (by decide) (fun c_7 => ?_) (fun c_7 => ?_)
        · replace hf := ite_t c_7 hf
          exact bX5_bestPartner_56 (S := S) (x1 := x1) (x2 := x2) X hN hl0 ih (v3) (v4) (v5) _ _ _ hR hS (lv_sub hl [0, 1, 2, 3, 4, 5] rfl) hf
        · replace hf := ite_f c_7 hf
          refine lv_aload_n hx hb dX5_bestPartner_44 rfl (lv_at hl 0 rfl) ?_
          refine rg_5_1 X hR iX5_bestPartner_5 wX5_bestPartner_19 dX5_bestPartner_45 ?_
          refine lv_iload hx hb dX5_bestPartner_48 (lv_at hl 5 rfl) ?_
          obtain ⟨r_8, hq_9, hf⟩ := bd1_some hf
          refine kVi (id := (20 * 0)) (As := [.int v5]) (rest := []) X hR hS (zcX1_isFree l D cy ad ba O S 0 v5 (by decide) _ hq_9) (cwV 1 X.2.2.2.2.2.1 gX5_bestPartner_X1_isFree rfl rfl rfl kdX1_isFree ⟨(Nat.le_of_ble_eq_true rfl), (Nat.le_of_ble_eq_true rfl)⟩) (te_idc (by decide)) (teE_circ cy ad O S (by decide)) rfl rfl rfl hl.1 (Nat.le_of_ble_eq_true rfl) ⟨(Nat.le_of_ble_eq_true rfl), (Nat.le_of_ble_eq_true rfl)⟩ dX5_bestPartner_50 (fun H locs hR hS => ?_)
          refine lv_if_eq (tgt := 89) hx hb dX5_bestPartner_53 (by decide) (fun c_10 => ?_) (fun c_10 => ?_)
          · replace hf := ite_t c_10 hf
            refine lv_iinc (v := (v5 + (1 : Int32))) (lv' := [(5, .int (v5 + (1 : Int32))), (0, .ref (ad 360)), (1, .int x1), (2, .int x2), (3, .int v3), (4, .int v4)]) hx hb dX5_bestPartner_89 hl (k := 5) rfl rfl (by decide) rfl (fun ls hl => ?_)
            refine lv_goto (tgt := 15) hx hb dX5_bestPartner_92 (by decide) ?_
            exact ih (v3) (v4) ((v5 + (1 : Int32))) _ _ _ hR hS (lv_sub hl [1, 2, 3, 4, 5, 0] rfl) hf
          · replace hf := ite_f c_10 hf
            exact bX5_bestPartner_56 (S := S) (x1 := x1) (x2 := x2) X hN hl0 ih (v3) (v4) (v5) _ _ _ hR hS (lv_sub hl [0, 1, 2, 3, 4, 5] rfl) hf
set_option maxRecDepth 100000 in
set_option maxHeartbeats 4000000 in
theorem bX5_bestPartner_0 {p : Program} {l : Launch} {e : Env} {s : State} {m : MethodId} {args : Array Value} {below : List Frame} {meth : Method} {c : Code} {D : va_G} {cy : Nat → ClassId} {ad : Nat → Nat} {ba : Nat → Prop} {O : Int64} {S : teS}  {x1 : Int32} {x2 : Int32} {res : (Nat ⊕ (Int32 × teS))} (X : teC wsX5_bestPartner RX5 cX5_bestPartner 7 (some .int) D cy ba p s m args meth c) (hN : ∀ x ∈ c.exceptionTable.toList, False) (hl0 : l.stackTraces = false) (H : Heap) (locs : List Loc) (ls : Array Slot) (hR : teR D cy ad ba O S H) (hS : va_S (teA ba) s.heap H locs) (hl : lv_has ls 7 [(0, .ref (ad 360)), (1, .int x1), (2, .int x2)]) (hf : fX5_bestPartner x1 x2 S = some res) : W p l e (headSpec wsX5_bestPartner rmX5_bestPartner).room s m args below meth c H locs 0 0 (vx_MQ below (va_Qi (fun a u => Sum.inr (a, u) = res) (fun u t => teR D cy ad ba O u t.heap) (teA ba)) (teXC D cy ad ba O S (fun c => Sum.inl c = res)) args s 1 6 (teA ba)) (F0 m 0 ls []) := by
  have hx := X.1
  have hb := X.2.1
  have hown := X.2.2.2.2.1
  unfold fX5_bestPartner at hf
  refine lv_aload_n hx hb dX5_bestPartner_0 rfl (lv_at hl 0 rfl) ?_
  refine lv_iload_n hx hb dX5_bestPartner_1 rfl (lv_at hl 1 rfl) ?_
  rcases bx1_some hf with ⟨e_1, hq_2, hf⟩ | ⟨⟨⟩, hq_2, hf⟩
  · exact kVxl (id := 360) (As := [.int x1]) (rest := []) X hN hR hS (zcX5_requireMember l D cy ad ba O S x1 hl0 _ hq_2) (cwV 1 X.2.2.2.2.2.1 gX5_bestPartner_X5_requireMember rfl rfl rfl kdX5_requireMember ⟨(Nat.le_of_ble_eq_true rfl), (Nat.le_of_ble_eq_true rfl)⟩) (by decide) rfl rfl rfl rfl hl.1 (Nat.le_of_ble_eq_true rfl) ⟨(Nat.le_of_ble_eq_true rfl), (Nat.le_of_ble_eq_true rfl)⟩ (Nat.le_of_ble_eq_true rfl) (Nat.le_of_ble_eq_true rfl) dX5_bestPartner_2 hf.symm
  refine kVxr (id := 360) (As := [.int x1]) (rest := []) X hR hS (znX5_requireMember l D cy ad ba O S x1 hq_2) (cwV 1 X.2.2.2.2.2.1 gX5_bestPartner_X5_requireMember rfl rfl rfl kdX5_requireMember ⟨(Nat.le_of_ble_eq_true rfl), (Nat.le_of_ble_eq_true rfl)⟩) (by decide) rfl rfl rfl rfl hl.1 (Nat.le_of_ble_eq_true rfl) ⟨(Nat.le_of_ble_eq_true rfl), (Nat.le_of_ble_eq_true rfl)⟩ dX5_bestPartner_2 (fun H locs hR hS => ?_)
  refine lv_sipush (v := (-9999 : Int32)) hx hb dX5_bestPartner_5 (by decide) ?_
  refine lv_istore_n (lv' := [(3, .int (-9999 : Int32)), (0, .ref (ad 360)), (1, .int x1), (2, .int x2)]) hx hb dX5_bestPartner_8 rfl hl (by decide) rfl (fun ls hl => ?_)
  refine lv_iconst (v := (0 : Int32)) hx hb dX5_bestPartner_9 (by decide) ?_
  refine lv_istore (lv' := [(4, .int (0 : Int32)), (3, .int (-9999 : Int32)), (0, .ref (ad 360)), (1, .int x1), (2, .int x2)]) hx hb dX5_bestPartner_10 hl (by decide) rfl (fun ls hl => ?_)
  refine lv_iconst (v := (0 : Int32)) hx hb dX5_bestPartner_12 (by decide) ?_
  refine lv_istore (lv' := [(5, .int (0 : Int32)), (4, .int (0 : Int32)), (3, .int (-9999 : Int32)), (0, .ref (ad 360)), (1, .int x1), (2, .int x2)]) hx hb dX5_bestPartner_13 hl (by decide) rfl (fun ls hl => ?_)
  refine W.widen (k := 1) (n := 6) (Nat.le_of_ble_eq_true rfl) (Nat.le_of_ble_eq_true rfl) ?_
  exact bX5_bestPartner_15 (S := S) (x1 := x1) (x2 := x2) X hN hl0 2000 ((-9999 : Int32)) ((0 : Int32)) ((0 : Int32)) _ _ _ hR hS (lv_sub hl [3, 4, 5, 2, 1, 0] rfl) hf
theorem zcX5_bestPartner (l : Launch) (D : va_G) (cy : Nat → ClassId) (ad : Nat → Nat) (ba : Nat → Prop) (O : Int64) (S : teS) (x1 : Int32) (x2 : Int32) (hl0 : l.stackTraces = false) (res : (Nat ⊕ (Int32 × teS))) (hf : fX5_bestPartner x1 x2 S = some res) : xQ l yX5_bestPartner wsX5_bestPartner rmX5_bestPartner 1 6 D cy ad ba O S [.ref (ad 360), .int x1, .int x2] res :=
  te_ofx (by decide) rfl (Nat.le_of_ble_eq_true rfl) (fun p e s m below meth c ls X hN hR hS hl => bX5_bestPartner_0 (S := S) (x1 := x1) (x2 := x2) X hN hl0 _ _ _ hR hS hl hf)
abbrev rmX5_best : Room := { frames := 7, cells := 1, slots := 6, locals := 118 }
theorem kdX5_best : yX5_best.cls = RX5 ∧ yX5_best.cls ≠ "java/lang/invoke/MethodHandle" ∧ yX5_best.cls ≠ "java/lang/invoke/VarHandle" ∧ (parseMethodDescriptor yX5_best.desc).map (fun d => d.parameters.length) = some 1 := by decide +kernel
theorem wX5_best_44 : Cond.fieldLink RX5 44 "TandemExchange" "bestMatching" "LTandemExchange$BestMatching;" ∈ wsX5_best := by decide +kernel
theorem iX5_best_5 : ∀ w ∈ wsX50, w ∈ wsX5_best := by decide +kernel
theorem wX5_best_19 : Cond.fieldLink RX5 19 "TandemExchange" "circle" "LTandemExchange$Circle;" ∈ wsX5_best := by decide +kernel
set_option maxRecDepth 100000 in
set_option maxHeartbeats 4000000 in
theorem bX5_best_0 {p : Program} {l : Launch} {e : Env} {s : State} {m : MethodId} {args : Array Value} {below : List Frame} {meth : Method} {c : Code} {D : va_G} {cy : Nat → ClassId} {ad : Nat → Nat} {ba : Nat → Prop} {O : Int64} {S : teS}  {x1 : Int32} {res : (Nat ⊕ (Int32 × teS))} (X : teC wsX5_best RX5 cX5_best 3 (some .int) D cy ba p s m args meth c) (hN : ∀ x ∈ c.exceptionTable.toList, False) (hl0 : l.stackTraces = false) (H : Heap) (locs : List Loc) (ls : Array Slot) (hR : teR D cy ad ba O S H) (hS : va_S (teA ba) s.heap H locs) (hl : lv_has ls 3 [(0, .ref (ad 360)), (1, .int x1)]) (hf : fX5_best x1 S = some res) : W p l e (headSpec wsX5_best rmX5_best).room s m args below meth c H locs 0 0 (vx_MQ below (va_Qi (fun a u => Sum.inr (a, u) = res) (fun u t => teR D cy ad ba O u t.heap) (teA ba)) (teXC D cy ad ba O S (fun c => Sum.inl c = res)) args s 1 6 (teA ba)) (F0 m 0 ls []) := by
  have hx := X.1
  have hb := X.2.1
  have hown := X.2.2.2.2.1
  unfold fX5_best at hf
  refine lv_iload_n hx hb dX5_best_0 rfl (lv_at hl 1 rfl) ?_
  refine lv_iconst (v := (0 : Int32)) hx hb dX5_best_1 (by decide) ?_
  refine lv_iconst (v := (1 : Int32)) hx hb dX5_best_2 (by decide) ?_
  rcases bx1_some hf with ⟨e_1, hq_2, hf⟩ | ⟨⟨⟩, hq_2, hf⟩
  · exact kSxl (As := [.int x1, .int (0 : Int32), .int (1 : Int32)]) (rest := []) X hN hR hS (zcX5_requireRange l D cy ad ba O S x1 (0 : Int32) (1 : Int32) hl0 _ hq_2) (va_cwS 3 X.2.2.2.2.2.1 gX5_best_X5_requireRange rfl rfl rfl kdX5_requireRange.2 ⟨(Nat.le_of_ble_eq_true rfl), (Nat.le_of_ble_eq_true rfl)⟩)  rfl rfl hl.1 (Nat.le_of_ble_eq_true rfl) ⟨(Nat.le_of_ble_eq_true rfl), (Nat.le_of_ble_eq_true rfl)⟩ (Nat.le_of_ble_eq_true rfl) (Nat.le_of_ble_eq_true rfl) dX5_best_3 hf.symm
  refine kSxr (As := [.int x1, .int (0 : Int32), .int (1 : Int32)]) (rest := []) X hR hS (znX5_requireRange l D cy ad ba O S x1 (0 : Int32) (1 : Int32) hq_2) (va_cwS 3 X.2.2.2.2.2.1 gX5_best_X5_requireRange rfl rfl rfl kdX5_requireRange.2 ⟨(Nat.le_of_ble_eq_true rfl), (Nat.le_of_ble_eq_true rfl)⟩)  rfl rfl hl.1 (Nat.le_of_ble_eq_true rfl) ⟨(Nat.le_of_ble_eq_true rfl), (Nat.le_of_ble_eq_true rfl)⟩ dX5_best_3 (fun H locs hR hS => ?_)
  refine lv_aload_n hx hb dX5_best_6 rfl (lv_at hl 0 rfl) ?_
  refine rg_5_6 X hR iX5_best_5 wX5_best_44 dX5_best_7 ?_
  refine lv_aload_n hx hb dX5_best_10 rfl (lv_at hl 0 rfl) ?_
  refine rg_5_1 X hR iX5_best_5 wX5_best_19 dX5_best_11 ?_
  obtain ⟨S1, hq_4, hf⟩ := bd1_some hf
  refine kVv (id := 367) (As := [.ref (ad (20 * 0))]) (rest := []) X hR hS (zcX0_fill l D cy ad ba O S 0 (by decide) _ hq_4) (cwV 1 X.2.2.2.2.2.1 gX5_best_X0_fill rfl rfl rfl kdX0_fill ⟨(Nat.le_of_ble_eq_true rfl), (Nat.le_of_ble_eq_true rfl)⟩) (by decide) rfl rfl rfl rfl hl.1 (Nat.le_of_ble_eq_true rfl) ⟨(Nat.le_of_ble_eq_true rfl), (Nat.le_of_ble_eq_true rfl)⟩ dX5_best_14 (fun H locs hR hS => ?_)
  refine lv_aload_n hx hb dX5_best_17 rfl (lv_at hl 0 rfl) ?_
  refine rg_5_6 X hR iX5_best_5 wX5_best_44 dX5_best_18 ?_
  refine lv_aload_n hx hb dX5_best_21 rfl (lv_at hl 0 rfl) ?_
  refine rg_5_1 X hR iX5_best_5 wX5_best_19 dX5_best_22 ?_
  obtain ⟨r_5, hq_6, hf⟩ := bd1_some hf
  refine kVi (id := 367) (As := [.ref (ad (20 * 0))]) (rest := []) X hR hS (zcX0_rankOfAll l D cy ad ba O S1 0 (by decide) _ hq_6) (cwV 1 X.2.2.2.2.2.1 gX5_best_X0_rankOfAll rfl rfl rfl kdX0_rankOfAll ⟨(Nat.le_of_ble_eq_true rfl), (Nat.le_of_ble_eq_true rfl)⟩) (by decide) rfl rfl rfl rfl hl.1 (Nat.le_of_ble_eq_true rfl) ⟨(Nat.le_of_ble_eq_true rfl), (Nat.le_of_ble_eq_true rfl)⟩ dX5_best_25 (fun H locs hR hS => ?_)
  refine lv_istore_n (lv' := [(2, .int r_5), (0, .ref (ad 360)), (1, .int x1)]) hx hb dX5_best_28 rfl hl (by decide) rfl (fun ls hl => ?_)
  refine lv_iload_n hx hb dX5_best_29 rfl (lv_at hl 2 rfl) ?_
  refine lv_if_ne (tgt := 44) hx hb dX5_best_30 (by decide) (fun c_7 => ?_) (fun c_7 => ?_)
  · replace hf := ite_f c_7 hf
    refine lv_aload_n hx hb dX5_best_44 rfl (lv_at hl 1 rfl) ?_
    refine rg_5_6 X hR iX5_best_5 wX5_best_44 dX5_best_45 ?_
    refine lv_iload_n hx hb dX5_best_48 rfl (lv_at hl 0 rfl) ?_
    obtain ⟨r_8, hq_9, hf⟩ := bd1_some hf
    refine kVi (id := 367) (As := [.int r_5]) (rest := []) X hR hS (zcX0_sumOf l D cy ad ba O S1 r_5 _ hq_9) (cwV 1 X.2.2.2.2.2.1 gX5_best_X0_sumOf rfl rfl rfl kdX0_sumOf ⟨(Nat.le_of_ble_eq_true rfl), (Nat.le_of_ble_eq_true rfl)⟩) (by decide) rfl rfl rfl rfl hl.1 (Nat.le_of_ble_eq_true rfl) ⟨(Nat.le_of_ble_eq_true rfl), (Nat.le_of_ble_eq_true rfl)⟩ dX5_best_49 (fun H locs hR hS => ?_)
    exact eIx X hR hS (Option.some.inj hf) (Nat.le_of_ble_eq_true rfl) (Nat.le_of_ble_eq_true rfl) dX5_best_52
  · replace hf := ite_t c_7 hf
    refine lv_aload_n hx hb dX5_best_33 rfl (lv_at hl 1 rfl) ?_
    refine rg_5_6 X hR iX5_best_5 wX5_best_44 dX5_best_34 ?_
    refine lv_iload_n hx hb dX5_best_37 rfl (lv_at hl 0 rfl) ?_
    obtain ⟨r_10, hq_11, hf⟩ := bd1_some hf
    refine kVi (id := 367) (As := [.int r_5]) (rest := []) X hR hS (zcX0_pairsOf l D cy ad ba O S1 r_5 _ hq_11) (cwV 1 X.2.2.2.2.2.1 gX5_best_X0_pairsOf rfl rfl rfl kdX0_pairsOf ⟨(Nat.le_of_ble_eq_true rfl), (Nat.le_of_ble_eq_true rfl)⟩) (by decide) rfl rfl rfl rfl hl.1 (Nat.le_of_ble_eq_true rfl) ⟨(Nat.le_of_ble_eq_true rfl), (Nat.le_of_ble_eq_true rfl)⟩ dX5_best_38 (fun H locs hR hS => ?_)
    refine lv_goto (tgt := 52) hx hb dX5_best_41 (by decide) ?_
    exact eIx X hR hS (Option.some.inj hf) (Nat.le_of_ble_eq_true rfl) (Nat.le_of_ble_eq_true rfl) dX5_best_52
theorem zcX5_best (l : Launch) (D : va_G) (cy : Nat → ClassId) (ad : Nat → Nat) (ba : Nat → Prop) (O : Int64) (S : teS) (x1 : Int32) (hl0 : l.stackTraces = false) (res : (Nat ⊕ (Int32 × teS))) (hf : fX5_best x1 S = some res) : xQ l yX5_best wsX5_best rmX5_best 1 6 D cy ad ba O S [.ref (ad 360), .int x1] res :=
  te_ofx (by decide) rfl (Nat.le_of_ble_eq_true rfl) (fun p e s m below meth c ls X hN hR hS hl => bX5_best_0 (S := S) (x1 := x1) X hN hl0 _ _ _ hR hS hl hf)
abbrev rmX5_missedMost : Room := { frames := 5, cells := 0, slots := 0, locals := 118 }
theorem kdX5_missedMost : yX5_missedMost.cls = RX5 ∧ yX5_missedMost.cls ≠ "java/lang/invoke/MethodHandle" ∧ yX5_missedMost.cls ≠ "java/lang/invoke/VarHandle" ∧ (parseMethodDescriptor yX5_missedMost.desc).map (fun d => d.parameters.length) = some 0 := by decide +kernel
theorem wX5_missedMost_44 : Cond.fieldLink RX5 44 "TandemExchange" "bestMatching" "LTandemExchange$BestMatching;" ∈ wsX5_missedMost := by decide +kernel
theorem iX5_missedMost_5 : ∀ w ∈ wsX50, w ∈ wsX5_missedMost := by decide +kernel
theorem wX5_missedMost_19 : Cond.fieldLink RX5 19 "TandemExchange" "circle" "LTandemExchange$Circle;" ∈ wsX5_missedMost := by decide +kernel
theorem wX5_missedMost_80 : Cond.fieldLink RX5 80 "TandemExchange$Circle" "size" "I" ∈ wsX5_missedMost := by decide +kernel
theorem iX5_missedMost_1 : ∀ w ∈ wsX10, w ∈ wsX5_missedMost := by decide +kernel
set_option maxRecDepth 100000 in
set_option maxHeartbeats 4000000 in
theorem bX5_missedMost_19 {p : Program} {l : Launch} {e : Env} {s : State} {m : MethodId} {args : Array Value} {below : List Frame} {meth : Method} {c : Code} {D : va_G} {cy : Nat → ClassId} {ad : Nat → Nat} {ba : Nat → Prop} {O : Int64} {S : teS}  {res : (Int32 × teS)} (X : teC wsX5_missedMost RX5 cX5_missedMost 5 (some .int) D cy ba p s m args meth c) : ∀ (n : Nat), ∀ (S1 : teS) (v1 : Int32) (v2 : Int32) (v3 : Int32) (H : Heap) (locs : List Loc) (ls : Array Slot), teR D cy ad ba O S1 H → va_S (teA ba) s.heap H locs → lv_has ls 5 [(0, .ref (ad 360)), (1, .int v1), (2, .int v2), (3, .int v3)] → fX5_missedMost_19 n S1 v1 v2 v3 = some res → W p l e (headSpec wsX5_missedMost rmX5_missedMost).room s m args below meth c H locs 0 0 (MQ below (va_Qi (fun a (u : teS) => a = res.1 ∧ u = res.2) (fun u t => teR D cy ad ba O u t.heap) (teA ba)) args s 0 0 (teA ba)) (F0 m 19 ls []) := by
  have hx := X.1
  have hb := X.2.1
  have hown := X.2.2.2.2.1
  intro n
  induction n with
  | zero =>
    intro S1 v1 v2 v3 H locs ls hR hS hl hf
    exact nomatch hf
  | succ n ih =>
    intro S1 v1 v2 v3 H locs ls hR hS hl hf
    unfold fX5_missedMost_19 at hf
    refine lv_iload_n hx hb dX5_missedMost_19 rfl (lv_at hl 3 rfl) ?_
    refine lv_aload_n hx hb dX5_missedMost_20 rfl (lv_at hl 0 rfl) ?_
    refine rg_5_1 X hR iX5_missedMost_5 wX5_missedMost_19 dX5_missedMost_21 ?_
    refine rg_1_1 X hR (by decide) iX5_missedMost_1 wX5_missedMost_80 dX5_missedMost_24 ?_
    refine lv_icmp_ge (tgt := 68) hx hb dX5_missedMost_27 (by decide) (fun c_3 => ?_) (fun c_3 => ?_)
    · replace hf := ite_t c_3 hf
      refine lv_iload_n hx hb dX5_missedMost_68 rfl (lv_at hl 1 rfl) ?_
      exact eI X hR hS (congrArg Prod.fst (Option.some.inj hf)) (congrArg Prod.snd (Option.some.inj hf)) dX5_missedMost_69
    · replace hf := ite_f c_3 hf
      refine lv_aload_n hx hb dX5_missedMost_30 rfl (lv_at hl 0 rfl) ?_
      refine rg_5_6 X hR iX5_missedMost_5 wX5_missedMost_44 dX5_missedMost_31 ?_
      refine lv_aload_n hx hb dX5_missedMost_34 rfl (lv_at hl 0 rfl) ?_
      refine rg_5_1 X hR iX5_missedMost_5 wX5_missedMost_19 dX5_missedMost_35 ?_
      refine lv_iload_n hx hb dX5_missedMost_38 rfl (lv_at hl 3 rfl) ?_
      obtain ⟨r_4, hq_5, hf⟩ := bd1_some hf
      refine kVi (id := 367) (As := [.ref (ad (20 * 0)), .int v3]) (rest := []) X hR hS (zcX0_rankWithout l D cy ad ba O S1 0 v3 (by decide) _ hq_5) (cwV 2 X.2.2.2.2.2.1 gX5_missedMost_X0_rankWithout rfl rfl rfl kdX0_rankWithout ⟨(Nat.le_of_ble_eq_true rfl), (Nat.le_of_ble_eq_true rfl)⟩) (by decide) rfl rfl rfl rfl hl.1 (Nat.le_of_ble_eq_true rfl) ⟨(Nat.le_of_ble_eq_true rfl), (Nat.le_of_ble_eq_true rfl)⟩ dX5_missedMost_39 (fun H locs hR hS => ?_)
      refine lv_istore (lv' := [(4, .int r_4), (0, .ref (ad 360)), (1, .int v1), (2, .int v2), (3, .int v3)]) hx hb dX5_missedMost_42 hl (by decide) rfl (fun ls hl => ?_)
      refine lv_iload_n hx hb dX5_missedMost_44 rfl (lv_at hl 2 rfl) ?_
      refine lv_sipush (v := (-9999 : Int32)) hx hb dX5_missedMost_45 (by decide) ?_
      refine lv_icmp_eq (tgt := 57) hx hb dX5_missedMost_48 (by decide) (fun c_6 => ?_) (fun c_6 => ?_)
      · replace hf := ite_t c_6 hf
        refine lv_iload_n hx hb dX5_missedMost_57 rfl (lv_at hl 4 rfl) ?_
        refine lv_istore_n (lv' := [(1, .int v3), (4, .int r_4), (0, .ref (ad 360)), (2, .int v2), (3, .int v3)]) hx hb dX5_missedMost_58 rfl hl (by decide) rfl (fun ls hl => ?_)
        refine lv_iload hx hb dX5_missedMost_59 (lv_at hl 1 rfl) ?_
        refine lv_istore_n (lv' := [(2, .int r_4), (1, .int v3), (4, .int r_4), (0, .ref (ad 360)), (3, .int v3)]) hx hb dX5_missedMost_61 rfl hl (by decide) rfl (fun ls hl => ?_)
        refine lv_iinc (v := (v3 + (1 : Int32))) (lv' := [(3, .int (v3 + (1 : Int32))), (2, .int r_4), (1, .int v3), (4, .int r_4), (0, .ref (ad 360))]) hx hb dX5_missedMost_62 hl (k := 4) rfl rfl (by decide) rfl (fun ls hl => ?_)
        refine lv_goto (tgt := 19) hx hb dX5_missedMost_65 (by decide) ?_
        exact ih S1 (v3) (r_4) ((v3 + (1 : Int32))) _ _ _ hR hS (lv_sub hl [4, 2, 1, 0] rfl) hf
      · replace hf := ite_f c_6 hf
        refine lv_iload hx hb dX5_missedMost_51 (lv_at hl 0 rfl) ?_
        refine lv_iload_n hx hb dX5_missedMost_53 rfl (lv_at hl 3 rfl) ?_
        refine lv_icmp_ge (tgt := 62) hx hb dX5_missedMost_54 (by decide) (fun c_7 => ?_) (fun c_7 => ?_)
        · replace hf := ite_t c_7 hf
          refine lv_iinc (v := (v3 + (1 : Int32))) (lv' := [(3, .int (v3 + (1 : Int32))), (4, .int r_4), (0, .ref (ad 360)), (1, .int v1), (2, .int v2)]) hx hb dX5_missedMost_62 hl (k := 4) rfl rfl (by decide) rfl (fun ls hl => ?_)
          refine lv_goto (tgt := 19) hx hb dX5_missedMost_65 (by decide) ?_
          exact ih S1 (v1) (v2) ((v3 + (1 : Int32))) _ _ _ hR hS (lv_sub hl [2, 3, 4, 0] rfl) hf
        · replace hf := ite_f c_7 hf
          refine lv_iload_n hx hb dX5_missedMost_57 rfl (lv_at hl 4 rfl) ?_
          refine lv_istore_n (lv' := [(1, .int v3), (4, .int r_4), (0, .ref (ad 360)), (2, .int v2), (3, .int v3)]) hx hb dX5_missedMost_58 rfl hl (by decide) rfl (fun ls hl => ?_)
          refine lv_iload hx hb dX5_missedMost_59 (lv_at hl 1 rfl) ?_
          refine lv_istore_n (lv' := [(2, .int r_4), (1, .int v3), (4, .int r_4), (0, .ref (ad 360)), (3, .int v3)]) hx hb dX5_missedMost_61 rfl hl (by decide) rfl (fun ls hl => ?_)
          refine lv_iinc (v := (v3 + (1 : Int32))) (lv' := [(3, .int (v3 + (1 : Int32))), (2, .int r_4), (1, .int v3), (4, .int r_4), (0, .ref (ad 360))]) hx hb dX5_missedMost_62 hl (k := 4) rfl rfl (by decide) rfl (fun ls hl => ?_)
          refine lv_goto (tgt := 19) hx hb dX5_missedMost_65 (by decide) ?_
          exact ih S1 (v3) (r_4) ((v3 + (1 : Int32))) _ _ _ hR hS (lv_sub hl [4, 2, 1, 0] rfl) hf
set_option maxRecDepth 100000 in
set_option maxHeartbeats 4000000 in
theorem bX5_missedMost_0 {p : Program} {l : Launch} {e : Env} {s : State} {m : MethodId} {args : Array Value} {below : List Frame} {meth : Method} {c : Code} {D : va_G} {cy : Nat → ClassId} {ad : Nat → Nat} {ba : Nat → Prop} {O : Int64} {S : teS}  {res : (Int32 × teS)} (X : teC wsX5_missedMost RX5 cX5_missedMost 5 (some .int) D cy ba p s m args meth c) (H : Heap) (locs : List Loc) (ls : Array Slot) (hR : teR D cy ad ba O S H) (hS : va_S (teA ba) s.heap H locs) (hl : lv_has ls 5 [(0, .ref (ad 360))]) (hf : fX5_missedMost S = some res) : W p l e (headSpec wsX5_missedMost rmX5_missedMost).room s m args below meth c H locs 0 0 (MQ below (va_Qi (fun a (u : teS) => a = res.1 ∧ u = res.2) (fun u t => teR D cy ad ba O u t.heap) (teA ba)) args s 0 0 (teA ba)) (F0 m 0 ls []) := by
  have hx := X.1
  have hb := X.2.1
  have hown := X.2.2.2.2.1
  unfold fX5_missedMost at hf
  refine lv_aload_n hx hb dX5_missedMost_0 rfl (lv_at hl 0 rfl) ?_
  refine rg_5_6 X hR iX5_missedMost_5 wX5_missedMost_44 dX5_missedMost_1 ?_
  refine lv_aload_n hx hb dX5_missedMost_4 rfl (lv_at hl 0 rfl) ?_
  refine rg_5_1 X hR iX5_missedMost_5 wX5_missedMost_19 dX5_missedMost_5 ?_
  obtain ⟨S1, hq_2, hf⟩ := bd1_some hf
  refine kVv (id := 367) (As := [.ref (ad (20 * 0))]) (rest := []) X hR hS (zcX0_fill l D cy ad ba O S 0 (by decide) _ hq_2) (cwV 1 X.2.2.2.2.2.1 gX5_missedMost_X0_fill rfl rfl rfl kdX0_fill ⟨(Nat.le_of_ble_eq_true rfl), (Nat.le_of_ble_eq_true rfl)⟩) (by decide) rfl rfl rfl rfl hl.1 (Nat.le_of_ble_eq_true rfl) ⟨(Nat.le_of_ble_eq_true rfl), (Nat.le_of_ble_eq_true rfl)⟩ dX5_missedMost_8 (fun H locs hR hS => ?_)
  refine lv_sipush (v := (-9999 : Int32)) hx hb dX5_missedMost_11 (by decide) ?_
  refine lv_istore_n (lv' := [(1, .int (-9999 : Int32)), (0, .ref (ad 360))]) hx hb dX5_missedMost_14 rfl hl (by decide) rfl (fun ls hl => ?_)
  refine lv_iconst (v := (0 : Int32)) hx hb dX5_missedMost_15 (by decide) ?_
  refine lv_istore_n (lv' := [(2, .int (0 : Int32)), (1, .int (-9999 : Int32)), (0, .ref (ad 360))]) hx hb dX5_missedMost_16 rfl hl (by decide) rfl (fun ls hl => ?_)
  refine lv_iconst (v := (0 : Int32)) hx hb dX5_missedMost_17 (by decide) ?_
  refine lv_istore_n (lv' := [(3, .int (0 : Int32)), (2, .int (0 : Int32)), (1, .int (-9999 : Int32)), (0, .ref (ad 360))]) hx hb dX5_missedMost_18 rfl hl (by decide) rfl (fun ls hl => ?_)
  exact bX5_missedMost_19 (S := S)  X 2000 S1 ((-9999 : Int32)) ((0 : Int32)) ((0 : Int32)) _ _ _ hR hS (lv_sub hl [3, 2, 1, 0] rfl) hf
theorem zcX5_missedMost (l : Launch) (D : va_G) (cy : Nat → ClassId) (ad : Nat → Nat) (ba : Nat → Prop) (O : Int64) (S : teS) (r : Int32) (S1 : teS) (hf : fX5_missedMost S = some (r, S1)) : cI l yX5_missedMost wsX5_missedMost rmX5_missedMost D cy ad ba O S [.ref (ad 360)] r S1 :=
  te_of (by decide) rfl (Nat.le_of_ble_eq_true rfl) (fun p e s m below meth c ls X hR hS hl => bX5_missedMost_0 (res := (r, S1)) (S := S)  X _ _ _ hR hS hl hf)
abbrev rmX5_ahead : Room := { frames := 7, cells := 1, slots := 6, locals := 116 }
theorem kdX5_ahead : yX5_ahead.cls = RX5 ∧ yX5_ahead.cls ≠ "java/lang/invoke/MethodHandle" ∧ yX5_ahead.cls ≠ "java/lang/invoke/VarHandle" ∧ (parseMethodDescriptor yX5_ahead.desc).map (fun d => d.parameters.length) = some 4 := by decide +kernel
theorem wX5_ahead_23 : Cond.fieldLink RX5 23 "TandemExchange" "trial" "LTandemExchange$Circle;" ∈ wsX5_ahead := by decide +kernel
theorem iX5_ahead_5 : ∀ w ∈ wsX50, w ∈ wsX5_ahead := by decide +kernel
theorem wX5_ahead_19 : Cond.fieldLink RX5 19 "TandemExchange" "circle" "LTandemExchange$Circle;" ∈ wsX5_ahead := by decide +kernel
set_option maxRecDepth 100000 in
set_option maxHeartbeats 4000000 in
theorem bX5_ahead_42 {p : Program} {l : Launch} {e : Env} {s : State} {m : MethodId} {args : Array Value} {below : List Frame} {meth : Method} {c : Code} {D : va_G} {cy : Nat → ClassId} {ad : Nat → Nat} {ba : Nat → Prop} {O : Int64} {S : teS}  {x1 : Int32} {x2 : Int32} {x3 : Int32} {x4 : Int32} {res : (Nat ⊕ (Int32 × teS))} (X : teC wsX5_ahead RX5 cX5_ahead 6 (some .int) D cy ba p s m args meth c) (hN : ∀ x ∈ c.exceptionTable.toList, False) (hl0 : l.stackTraces = false) : ∀ (n : Nat), ∀ (S1 : teS) (v5 : Int32) (H : Heap) (locs : List Loc) (ls : Array Slot), teR D cy ad ba O S1 H → va_S (teA ba) s.heap H locs → lv_has ls 6 [(0, .ref (ad 360)), (1, .int x1), (2, .int x2), (3, .int x3), (4, .int x4), (5, .int v5)] → fX5_ahead_42 x1 x2 x3 x4 n S1 v5 = some res → W p l e (headSpec wsX5_ahead rmX5_ahead).room s m args below meth c H locs 1 6 (vx_MQ below (va_Qi (fun a u => Sum.inr (a, u) = res) (fun u t => teR D cy ad ba O u t.heap) (teA ba)) (teXC D cy ad ba O S (fun c => Sum.inl c = res)) args s 1 6 (teA ba)) (F0 m 42 ls []) := by
  have hx := X.1
  have hb := X.2.1
  have hown := X.2.2.2.2.1
  intro n
  induction n with
  | zero =>
    intro S1 v5 H locs ls hR hS hl hf
    exact nomatch hf
  | succ n ih =>
    intro S1 v5 H locs ls hR hS hl hf
    unfold fX5_ahead_42 at hf
    refine lv_iload hx hb dX5_ahead_42 (lv_at hl 5 rfl) ?_
    refine lv_iload_n hx hb dX5_ahead_44 rfl (lv_at hl 2 rfl) ?_
    refine lv_icmp_ge (tgt := 62) hx hb dX5_ahead_45 (by decide) (fun c_11 => ?_) (fun c_11 => ?_)
    · replace hf := ite_t c_11 hf
      refine lv_aload_n hx hb dX5_ahead_62 rfl (lv_at hl 0 rfl) ?_
      refine rg_5_2 X hR iX5_ahead_5 wX5_ahead_23 dX5_ahead_63 ?_
      refine lv_iload_n hx hb dX5_ahead_66 rfl (lv_at hl 1 rfl) ?_
      refine lv_iload hx hb dX5_ahead_67 (lv_at hl 4 rfl) ?_
      obtain ⟨r_12, hq_13, hf⟩ := bd1_some hf
      refine kVi (id := (20 * 1)) (As := [.int x1, .int x4]) (rest := []) X hR hS (zcX1_numberOf l D cy ad ba O S1 1 x1 x4 (by decide) _ hq_13) (cwV 2 X.2.2.2.2.2.1 gX5_ahead_X1_numberOf rfl rfl rfl kdX1_numberOf ⟨(Nat.le_of_ble_eq_true rfl), (Nat.le_of_ble_eq_true rfl)⟩) (te_idc (by decide)) (teE_circ cy ad O S1 (by decide)) rfl rfl rfl hl.1 (Nat.le_of_ble_eq_true rfl) ⟨(Nat.le_of_ble_eq_true rfl), (Nat.le_of_ble_eq_true rfl)⟩ dX5_ahead_69 (fun H locs hR hS => ?_)
      exact eIx X hR hS (Option.some.inj hf) (Nat.le_of_ble_eq_true rfl) (Nat.le_of_ble_eq_true rfl) dX5_ahead_72
    · replace hf := ite_f c_11 hf
      refine lv_aload_n hx hb dX5_ahead_48 rfl (lv_at hl 0 rfl) ?_
      refine rg_5_2 X hR iX5_ahead_5 wX5_ahead_23 dX5_ahead_49 ?_
      refine lv_iload_n hx hb dX5_ahead_52 rfl (lv_at hl 3 rfl) ?_
      obtain ⟨S2, hq_15, hf⟩ := bd1_some hf
      refine kVv (id := (20 * 1)) (As := [.int x3]) (rest := []) X hR hS (zcX1_passWeek l D cy ad ba O S1 1 x3 (by decide) _ hq_15) (cwV 1 X.2.2.2.2.2.1 gX5_ahead_X1_passWeek rfl rfl rfl kdX1_passWeek ⟨(Nat.le_of_ble_eq_true rfl), (Nat.le_of_ble_eq_true rfl)⟩) (te_idc (by decide)) (teE_circ cy ad O S1 (by decide)) rfl rfl rfl hl.1 (Nat.le_of_ble_eq_true rfl) ⟨(Nat.le_of_ble_eq_true rfl), (Nat.le_of_ble_eq_true rfl)⟩ dX5_ahead_53 (fun H locs hR hS => ?_)
      refine lv_iinc (v := (v5 + (1 : Int32))) (lv' := [(5, .int (v5 + (1 : Int32))), (0, .ref (ad 360)), (1, .int x1), (2, .int x2), (3, .int x3), (4, .int x4)]) hx hb dX5_ahead_56 hl (k := 5) rfl rfl (by decide) rfl (fun ls hl => ?_)
      refine lv_goto (tgt := 42) hx hb dX5_ahead_59 (by decide) ?_
      exact ih S2 ((v5 + (1 : Int32))) _ _ _ hR hS (lv_sub hl [1, 2, 3, 4, 5, 0] rfl) hf
set_option maxRecDepth 100000 in
set_option maxHeartbeats 4000000 in
theorem bX5_ahead_0 {p : Program} {l : Launch} {e : Env} {s : State} {m : MethodId} {args : Array Value} {below : List Frame} {meth : Method} {c : Code} {D : va_G} {cy : Nat → ClassId} {ad : Nat → Nat} {ba : Nat → Prop} {O : Int64} {S : teS}  {x1 : Int32} {x2 : Int32} {x3 : Int32} {x4 : Int32} {res : (Nat ⊕ (Int32 × teS))} (X : teC wsX5_ahead RX5 cX5_ahead 6 (some .int) D cy ba p s m args meth c) (hN : ∀ x ∈ c.exceptionTable.toList, False) (hl0 : l.stackTraces = false) (H : Heap) (locs : List Loc) (ls : Array Slot) (hR : teR D cy ad ba O S H) (hS : va_S (teA ba) s.heap H locs) (hl : lv_has ls 6 [(0, .ref (ad 360)), (1, .int x1), (2, .int x2), (3, .int x3), (4, .int x4)]) (hf : fX5_ahead x1 x2 x3 x4 S = some res) : W p l e (headSpec wsX5_ahead rmX5_ahead).room s m args below meth c H locs 0 0 (vx_MQ below (va_Qi (fun a u => Sum.inr (a, u) = res) (fun u t => teR D cy ad ba O u t.heap) (teA ba)) (teXC D cy ad ba O S (fun c => Sum.inl c = res)) args s 1 6 (teA ba)) (F0 m 0 ls []) := by
  have hx := X.1
  have hb := X.2.1
  have hown := X.2.2.2.2.1
  unfold fX5_ahead at hf
  refine lv_aload_n hx hb dX5_ahead_0 rfl (lv_at hl 0 rfl) ?_
  refine lv_iload_n hx hb dX5_ahead_1 rfl (lv_at hl 1 rfl) ?_
  rcases bx1_some hf with ⟨e_1, hq_2, hf⟩ | ⟨⟨⟩, hq_2, hf⟩
  · exact kVxl (id := 360) (As := [.int x1]) (rest := []) X hN hR hS (zcX5_requireMember l D cy ad ba O S x1 hl0 _ hq_2) (cwV 1 X.2.2.2.2.2.1 gX5_ahead_X5_requireMember rfl rfl rfl kdX5_requireMember ⟨(Nat.le_of_ble_eq_true rfl), (Nat.le_of_ble_eq_true rfl)⟩) (by decide) rfl rfl rfl rfl hl.1 (Nat.le_of_ble_eq_true rfl) ⟨(Nat.le_of_ble_eq_true rfl), (Nat.le_of_ble_eq_true rfl)⟩ (Nat.le_of_ble_eq_true rfl) (Nat.le_of_ble_eq_true rfl) dX5_ahead_2 hf.symm
  refine kVxr (id := 360) (As := [.int x1]) (rest := []) X hR hS (znX5_requireMember l D cy ad ba O S x1 hq_2) (cwV 1 X.2.2.2.2.2.1 gX5_ahead_X5_requireMember rfl rfl rfl kdX5_requireMember ⟨(Nat.le_of_ble_eq_true rfl), (Nat.le_of_ble_eq_true rfl)⟩) (by decide) rfl rfl rfl rfl hl.1 (Nat.le_of_ble_eq_true rfl) ⟨(Nat.le_of_ble_eq_true rfl), (Nat.le_of_ble_eq_true rfl)⟩ dX5_ahead_2 (fun H locs hR hS => ?_)
  refine lv_iload_n hx hb dX5_ahead_5 rfl (lv_at hl 2 rfl) ?_
  refine lv_iconst (v := (0 : Int32)) hx hb dX5_ahead_6 (by decide) ?_
  refine lv_bipush (v := (60 : Int32)) hx hb dX5_ahead_7 (by decide) ?_
  rcases bx1_some hf with ⟨e_3, hq_4, hf⟩ | ⟨⟨⟩, hq_4, hf⟩
  · exact kSxl (As := [.int x2, .int (0 : Int32), .int (60 : Int32)]) (rest := []) X hN hR hS (zcX5_requireRange l D cy ad ba O S x2 (0 : Int32) (60 : Int32) hl0 _ hq_4) (va_cwS 3 X.2.2.2.2.2.1 gX5_ahead_X5_requireRange rfl rfl rfl kdX5_requireRange.2 ⟨(Nat.le_of_ble_eq_true rfl), (Nat.le_of_ble_eq_true rfl)⟩)  rfl rfl hl.1 (Nat.le_of_ble_eq_true rfl) ⟨(Nat.le_of_ble_eq_true rfl), (Nat.le_of_ble_eq_true rfl)⟩ (Nat.le_of_ble_eq_true rfl) (Nat.le_of_ble_eq_true rfl) dX5_ahead_9 hf.symm
  refine kSxr (As := [.int x2, .int (0 : Int32), .int (60 : Int32)]) (rest := []) X hR hS (znX5_requireRange l D cy ad ba O S x2 (0 : Int32) (60 : Int32) hq_4) (va_cwS 3 X.2.2.2.2.2.1 gX5_ahead_X5_requireRange rfl rfl rfl kdX5_requireRange.2 ⟨(Nat.le_of_ble_eq_true rfl), (Nat.le_of_ble_eq_true rfl)⟩)  rfl rfl hl.1 (Nat.le_of_ble_eq_true rfl) ⟨(Nat.le_of_ble_eq_true rfl), (Nat.le_of_ble_eq_true rfl)⟩ dX5_ahead_9 (fun H locs hR hS => ?_)
  refine lv_iload_n hx hb dX5_ahead_12 rfl (lv_at hl 3 rfl) ?_
  refine lv_iconst (v := (0 : Int32)) hx hb dX5_ahead_13 (by decide) ?_
  refine lv_sipush (v := (511 : Int32)) hx hb dX5_ahead_14 (by decide) ?_
  rcases bx1_some hf with ⟨e_5, hq_6, hf⟩ | ⟨⟨⟩, hq_6, hf⟩
  · exact kSxl (As := [.int x3, .int (0 : Int32), .int (511 : Int32)]) (rest := []) X hN hR hS (zcX5_requireRange l D cy ad ba O S x3 (0 : Int32) (511 : Int32) hl0 _ hq_6) (va_cwS 3 X.2.2.2.2.2.1 gX5_ahead_X5_requireRange rfl rfl rfl kdX5_requireRange.2 ⟨(Nat.le_of_ble_eq_true rfl), (Nat.le_of_ble_eq_true rfl)⟩)  rfl rfl hl.1 (Nat.le_of_ble_eq_true rfl) ⟨(Nat.le_of_ble_eq_true rfl), (Nat.le_of_ble_eq_true rfl)⟩ (Nat.le_of_ble_eq_true rfl) (Nat.le_of_ble_eq_true rfl) dX5_ahead_17 hf.symm
  refine kSxr (As := [.int x3, .int (0 : Int32), .int (511 : Int32)]) (rest := []) X hR hS (znX5_requireRange l D cy ad ba O S x3 (0 : Int32) (511 : Int32) hq_6) (va_cwS 3 X.2.2.2.2.2.1 gX5_ahead_X5_requireRange rfl rfl rfl kdX5_requireRange.2 ⟨(Nat.le_of_ble_eq_true rfl), (Nat.le_of_ble_eq_true rfl)⟩)  rfl rfl hl.1 (Nat.le_of_ble_eq_true rfl) ⟨(Nat.le_of_ble_eq_true rfl), (Nat.le_of_ble_eq_true rfl)⟩ dX5_ahead_17 (fun H locs hR hS => ?_)
  refine lv_iload hx hb dX5_ahead_20 (lv_at hl 4 rfl) ?_
  refine lv_iconst (v := (0 : Int32)) hx hb dX5_ahead_22 (by decide) ?_
  refine lv_bipush (v := (10 : Int32)) hx hb dX5_ahead_23 (by decide) ?_
  rcases bx1_some hf with ⟨e_7, hq_8, hf⟩ | ⟨⟨⟩, hq_8, hf⟩
  · exact kSxl (As := [.int x4, .int (0 : Int32), .int (10 : Int32)]) (rest := []) X hN hR hS (zcX5_requireRange l D cy ad ba O S x4 (0 : Int32) (10 : Int32) hl0 _ hq_8) (va_cwS 3 X.2.2.2.2.2.1 gX5_ahead_X5_requireRange rfl rfl rfl kdX5_requireRange.2 ⟨(Nat.le_of_ble_eq_true rfl), (Nat.le_of_ble_eq_true rfl)⟩)  rfl rfl hl.1 (Nat.le_of_ble_eq_true rfl) ⟨(Nat.le_of_ble_eq_true rfl), (Nat.le_of_ble_eq_true rfl)⟩ (Nat.le_of_ble_eq_true rfl) (Nat.le_of_ble_eq_true rfl) dX5_ahead_25 hf.symm
  refine kSxr (As := [.int x4, .int (0 : Int32), .int (10 : Int32)]) (rest := []) X hR hS (znX5_requireRange l D cy ad ba O S x4 (0 : Int32) (10 : Int32) hq_8) (va_cwS 3 X.2.2.2.2.2.1 gX5_ahead_X5_requireRange rfl rfl rfl kdX5_requireRange.2 ⟨(Nat.le_of_ble_eq_true rfl), (Nat.le_of_ble_eq_true rfl)⟩)  rfl rfl hl.1 (Nat.le_of_ble_eq_true rfl) ⟨(Nat.le_of_ble_eq_true rfl), (Nat.le_of_ble_eq_true rfl)⟩ dX5_ahead_25 (fun H locs hR hS => ?_)
  refine lv_aload_n hx hb dX5_ahead_28 rfl (lv_at hl 0 rfl) ?_
  refine rg_5_2 X hR iX5_ahead_5 wX5_ahead_23 dX5_ahead_29 ?_
  refine lv_aload_n hx hb dX5_ahead_32 rfl (lv_at hl 0 rfl) ?_
  refine rg_5_1 X hR iX5_ahead_5 wX5_ahead_19 dX5_ahead_33 ?_
  obtain ⟨S1, hq_10, hf⟩ := bd1_some hf
  refine kVv (id := (20 * 1)) (As := [.ref (ad (20 * 0))]) (rest := []) X hR hS (zcX1_copyFrom l D cy ad ba O S 1 0 (by decide) (by decide) _ hq_10) (cwV 1 X.2.2.2.2.2.1 gX5_ahead_X1_copyFrom rfl rfl rfl kdX1_copyFrom ⟨(Nat.le_of_ble_eq_true rfl), (Nat.le_of_ble_eq_true rfl)⟩) (te_idc (by decide)) (teE_circ cy ad O S (by decide)) rfl rfl rfl hl.1 (Nat.le_of_ble_eq_true rfl) ⟨(Nat.le_of_ble_eq_true rfl), (Nat.le_of_ble_eq_true rfl)⟩ dX5_ahead_36 (fun H locs hR hS => ?_)
  refine lv_iconst (v := (0 : Int32)) hx hb dX5_ahead_39 (by decide) ?_
  refine lv_istore (lv' := [(5, .int (0 : Int32)), (0, .ref (ad 360)), (1, .int x1), (2, .int x2), (3, .int x3), (4, .int x4)]) hx hb dX5_ahead_40 hl (by decide) rfl (fun ls hl => ?_)
  refine W.widen (k := 1) (n := 6) (Nat.le_of_ble_eq_true rfl) (Nat.le_of_ble_eq_true rfl) ?_
  exact bX5_ahead_42 (S := S) (x1 := x1) (x2 := x2) (x3 := x3) (x4 := x4) X hN hl0 2000 S1 ((0 : Int32)) _ _ _ hR hS (lv_sub hl [1, 2, 3, 4, 5, 0] rfl) hf
theorem zcX5_ahead (l : Launch) (D : va_G) (cy : Nat → ClassId) (ad : Nat → Nat) (ba : Nat → Prop) (O : Int64) (S : teS) (x1 : Int32) (x2 : Int32) (x3 : Int32) (x4 : Int32) (hl0 : l.stackTraces = false) (res : (Nat ⊕ (Int32 × teS))) (hf : fX5_ahead x1 x2 x3 x4 S = some res) : xQ l yX5_ahead wsX5_ahead rmX5_ahead 1 6 D cy ad ba O S [.ref (ad 360), .int x1, .int x2, .int x3, .int x4] res :=
  te_ofx (by decide) rfl (Nat.le_of_ble_eq_true rfl) (fun p e s m below meth c ls X hN hR hS hl => bX5_ahead_0 (S := S) (x1 := x1) (x2 := x2) (x3 := x3) (x4 := x4) X hN hl0 _ _ _ hR hS hl hf)
abbrev rmX5_levelAfter : Room := { frames := 7, cells := 1, slots := 6, locals := 116 }
theorem kdX5_levelAfter : yX5_levelAfter.cls = RX5 ∧ yX5_levelAfter.cls ≠ "java/lang/invoke/MethodHandle" ∧ yX5_levelAfter.cls ≠ "java/lang/invoke/VarHandle" ∧ (parseMethodDescriptor yX5_levelAfter.desc).map (fun d => d.parameters.length) = some 2 := by decide +kernel
theorem wX5_levelAfter_23 : Cond.fieldLink RX5 23 "TandemExchange" "trial" "LTandemExchange$Circle;" ∈ wsX5_levelAfter := by decide +kernel
theorem iX5_levelAfter_5 : ∀ w ∈ wsX50, w ∈ wsX5_levelAfter := by decide +kernel
theorem wX5_levelAfter_19 : Cond.fieldLink RX5 19 "TandemExchange" "circle" "LTandemExchange$Circle;" ∈ wsX5_levelAfter := by decide +kernel
theorem wX5_levelAfter_143 : Cond.fieldLink RX5 143 "TandemExchange$Circle" "members" "[LTandemExchange$Member;" ∈ wsX5_levelAfter := by decide +kernel
theorem iX5_levelAfter_1 : ∀ w ∈ wsX10, w ∈ wsX5_levelAfter := by decide +kernel
set_option maxRecDepth 100000 in
set_option maxHeartbeats 4000000 in
theorem bX5_levelAfter_25 {p : Program} {l : Launch} {e : Env} {s : State} {m : MethodId} {args : Array Value} {below : List Frame} {meth : Method} {c : Code} {D : va_G} {cy : Nat → ClassId} {ad : Nat → Nat} {ba : Nat → Prop} {O : Int64} {S : teS}  {x1 : Int32} {x2 : Int32} {res : (Nat ⊕ (Int32 × teS))} (X : teC wsX5_levelAfter RX5 cX5_levelAfter 4 (some .int) D cy ba p s m args meth c) (hN : ∀ x ∈ c.exceptionTable.toList, False) (hl0 : l.stackTraces = false) : ∀ (n : Nat), ∀ (S1 : teS) (v3 : Int32) (H : Heap) (locs : List Loc) (ls : Array Slot), teR D cy ad ba O S1 H → va_S (teA ba) s.heap H locs → lv_has ls 4 [(0, .ref (ad 360)), (1, .int x1), (2, .int x2), (3, .int v3)] → fX5_levelAfter_25 x1 x2 n S1 v3 = some res → W p l e (headSpec wsX5_levelAfter rmX5_levelAfter).room s m args below meth c H locs 1 6 (vx_MQ below (va_Qi (fun a u => Sum.inr (a, u) = res) (fun u t => teR D cy ad ba O u t.heap) (teA ba)) (teXC D cy ad ba O S (fun c => Sum.inl c = res)) args s 1 6 (teA ba)) (F0 m 25 ls []) := by
  have hx := X.1
  have hb := X.2.1
  have hown := X.2.2.2.2.1
  intro n
  induction n with
  | zero =>
    intro S1 v3 H locs ls hR hS hl hf
    exact nomatch hf
  | succ n ih =>
    intro S1 v3 H locs ls hR hS hl hf
    unfold fX5_levelAfter_25 at hf
    refine lv_iload_n hx hb dX5_levelAfter_25 rfl (lv_at hl 3 rfl) ?_
    refine lv_bipush (v := (100 : Int32)) hx hb dX5_levelAfter_26 (by decide) ?_
    refine lv_icmp_gt (tgt := 71) hx hb dX5_levelAfter_28 (by decide) (fun c_7 => ?_) (fun c_7 => ?_)
    · replace hf := ite_t c_7 hf
      refine lv_sipush (v := (-9999 : Int32)) hx hb dX5_levelAfter_71 (by decide) ?_
      exact eIx X hR hS (Option.some.inj hf) (Nat.le_of_ble_eq_true rfl) (Nat.le_of_ble_eq_true rfl) dX5_levelAfter_74
    · replace hf := ite_f c_7 hf
      refine lv_aload_n hx hb dX5_levelAfter_31 rfl (lv_at hl 0 rfl) ?_
      refine rg_5_2 X hR iX5_levelAfter_5 wX5_levelAfter_23 dX5_levelAfter_32 ?_
      refine rg_1_0 X hR (by decide) iX5_levelAfter_1 wX5_levelAfter_143 dX5_levelAfter_35 ?_
      refine lv_iload_n hx hb dX5_levelAfter_38 rfl (lv_at hl 1 rfl) ?_
      obtain ⟨h_8, hf⟩ := chk_some hf
      refine ra_mem X hR (by decide) h_8 dX5_levelAfter_39 ?_
      obtain ⟨r_9, hq_10, hf⟩ := bd1_some hf
      refine kVi (id := (20 * 1 + 2 + x1.toNatClampNeg)) (As := []) (rest := []) X hR hS (zcX3_wantedLevel l D cy ad ba O S1 1 x1.toNatClampNeg (by decide) (tein_lt h_8) _ hq_10) (cwV 0 X.2.2.2.2.2.1 gX5_levelAfter_X3_wantedLevel rfl rfl rfl kdX3_wantedLevel ⟨(Nat.le_of_ble_eq_true rfl), (Nat.le_of_ble_eq_true rfl)⟩) (te_idm (by decide) (tein_lt h_8)) (teE_memb cy ad O S1 (by decide) (tein_lt h_8)) rfl rfl rfl hl.1 (Nat.le_of_ble_eq_true rfl) ⟨(Nat.le_of_ble_eq_true rfl), (Nat.le_of_ble_eq_true rfl)⟩ dX5_levelAfter_40 (fun H locs hR hS => ?_)
      refine lv_iload_n hx hb dX5_levelAfter_43 rfl (lv_at hl 2 rfl) ?_
      refine lv_icmp_lt (tgt := 49) hx hb dX5_levelAfter_44 (by decide) (fun c_11 => ?_) (fun c_11 => ?_)
      · replace hf := ite_t c_11 hf
        refine lv_aload_n hx hb dX5_levelAfter_49 rfl (lv_at hl 0 rfl) ?_
        refine rg_5_2 X hR iX5_levelAfter_5 wX5_levelAfter_23 dX5_levelAfter_50 ?_
        obtain ⟨r_12, S2, hq_13, hf⟩ := bd2_some hf
        refine kVi (id := (20 * 1)) (As := []) (rest := []) X hR hS (zcX1_matchFree l D cy ad ba O S1 1 (by decide) _ _ hq_13) (cwV 0 X.2.2.2.2.2.1 gX5_levelAfter_X1_matchFree rfl rfl rfl kdX1_matchFree ⟨(Nat.le_of_ble_eq_true rfl), (Nat.le_of_ble_eq_true rfl)⟩) (te_idc (by decide)) (teE_circ cy ad O S1 (by decide)) rfl rfl rfl hl.1 (Nat.le_of_ble_eq_true rfl) ⟨(Nat.le_of_ble_eq_true rfl), (Nat.le_of_ble_eq_true rfl)⟩ dX5_levelAfter_53 (fun H locs hR hS => ?_)
        refine lv_pop hx hb dX5_levelAfter_56 rfl ?_
        refine lv_aload_n hx hb dX5_levelAfter_57 rfl (lv_at hl 0 rfl) ?_
        refine rg_5_2 X hR iX5_levelAfter_5 wX5_levelAfter_23 dX5_levelAfter_58 ?_
        refine lv_iconst (v := (0 : Int32)) hx hb dX5_levelAfter_61 (by decide) ?_
        obtain ⟨S3, hq_15, hf⟩ := bd1_some hf
        refine kVv (id := (20 * 1)) (As := [.int (0 : Int32)]) (rest := []) X hR hS (zcX1_passWeek l D cy ad ba O S2 1 (0 : Int32) (by decide) _ hq_15) (cwV 1 X.2.2.2.2.2.1 gX5_levelAfter_X1_passWeek rfl rfl rfl kdX1_passWeek ⟨(Nat.le_of_ble_eq_true rfl), (Nat.le_of_ble_eq_true rfl)⟩) (te_idc (by decide)) (teE_circ cy ad O S2 (by decide)) rfl rfl rfl hl.1 (Nat.le_of_ble_eq_true rfl) ⟨(Nat.le_of_ble_eq_true rfl), (Nat.le_of_ble_eq_true rfl)⟩ dX5_levelAfter_62 (fun H locs hR hS => ?_)
        refine lv_iinc (v := (v3 + (1 : Int32))) (lv' := [(3, .int (v3 + (1 : Int32))), (0, .ref (ad 360)), (1, .int x1), (2, .int x2)]) hx hb dX5_levelAfter_65 hl (k := 3) rfl rfl (by decide) rfl (fun ls hl => ?_)
        refine lv_goto (tgt := 25) hx hb dX5_levelAfter_68 (by decide) ?_
        exact ih S3 ((v3 + (1 : Int32))) _ _ _ hR hS (lv_sub hl [1, 2, 3, 0] rfl) hf
      · replace hf := ite_f c_11 hf
        refine lv_iload_n hx hb dX5_levelAfter_47 rfl (lv_at hl 3 rfl) ?_
        exact eIx X hR hS (Option.some.inj hf) (Nat.le_of_ble_eq_true rfl) (Nat.le_of_ble_eq_true rfl) dX5_levelAfter_48
set_option maxRecDepth 100000 in
set_option maxHeartbeats 4000000 in
theorem bX5_levelAfter_0 {p : Program} {l : Launch} {e : Env} {s : State} {m : MethodId} {args : Array Value} {below : List Frame} {meth : Method} {c : Code} {D : va_G} {cy : Nat → ClassId} {ad : Nat → Nat} {ba : Nat → Prop} {O : Int64} {S : teS}  {x1 : Int32} {x2 : Int32} {res : (Nat ⊕ (Int32 × teS))} (X : teC wsX5_levelAfter RX5 cX5_levelAfter 4 (some .int) D cy ba p s m args meth c) (hN : ∀ x ∈ c.exceptionTable.toList, False) (hl0 : l.stackTraces = false) (H : Heap) (locs : List Loc) (ls : Array Slot) (hR : teR D cy ad ba O S H) (hS : va_S (teA ba) s.heap H locs) (hl : lv_has ls 4 [(0, .ref (ad 360)), (1, .int x1), (2, .int x2)]) (hf : fX5_levelAfter x1 x2 S = some res) : W p l e (headSpec wsX5_levelAfter rmX5_levelAfter).room s m args below meth c H locs 0 0 (vx_MQ below (va_Qi (fun a u => Sum.inr (a, u) = res) (fun u t => teR D cy ad ba O u t.heap) (teA ba)) (teXC D cy ad ba O S (fun c => Sum.inl c = res)) args s 1 6 (teA ba)) (F0 m 0 ls []) := by
  have hx := X.1
  have hb := X.2.1
  have hown := X.2.2.2.2.1
  unfold fX5_levelAfter at hf
  refine lv_aload_n hx hb dX5_levelAfter_0 rfl (lv_at hl 0 rfl) ?_
  refine lv_iload_n hx hb dX5_levelAfter_1 rfl (lv_at hl 1 rfl) ?_
  rcases bx1_some hf with ⟨e_1, hq_2, hf⟩ | ⟨⟨⟩, hq_2, hf⟩
  · exact kVxl (id := 360) (As := [.int x1]) (rest := []) X hN hR hS (zcX5_requireMember l D cy ad ba O S x1 hl0 _ hq_2) (cwV 1 X.2.2.2.2.2.1 gX5_levelAfter_X5_requireMember rfl rfl rfl kdX5_requireMember ⟨(Nat.le_of_ble_eq_true rfl), (Nat.le_of_ble_eq_true rfl)⟩) (by decide) rfl rfl rfl rfl hl.1 (Nat.le_of_ble_eq_true rfl) ⟨(Nat.le_of_ble_eq_true rfl), (Nat.le_of_ble_eq_true rfl)⟩ (Nat.le_of_ble_eq_true rfl) (Nat.le_of_ble_eq_true rfl) dX5_levelAfter_2 hf.symm
  refine kVxr (id := 360) (As := [.int x1]) (rest := []) X hR hS (znX5_requireMember l D cy ad ba O S x1 hq_2) (cwV 1 X.2.2.2.2.2.1 gX5_levelAfter_X5_requireMember rfl rfl rfl kdX5_requireMember ⟨(Nat.le_of_ble_eq_true rfl), (Nat.le_of_ble_eq_true rfl)⟩) (by decide) rfl rfl rfl rfl hl.1 (Nat.le_of_ble_eq_true rfl) ⟨(Nat.le_of_ble_eq_true rfl), (Nat.le_of_ble_eq_true rfl)⟩ dX5_levelAfter_2 (fun H locs hR hS => ?_)
  refine lv_iload_n hx hb dX5_levelAfter_5 rfl (lv_at hl 2 rfl) ?_
  refine lv_iconst (v := (0 : Int32)) hx hb dX5_levelAfter_6 (by decide) ?_
  refine lv_bipush (v := (9 : Int32)) hx hb dX5_levelAfter_7 (by decide) ?_
  rcases bx1_some hf with ⟨e_3, hq_4, hf⟩ | ⟨⟨⟩, hq_4, hf⟩
  · exact kSxl (As := [.int x2, .int (0 : Int32), .int (9 : Int32)]) (rest := []) X hN hR hS (zcX5_requireRange l D cy ad ba O S x2 (0 : Int32) (9 : Int32) hl0 _ hq_4) (va_cwS 3 X.2.2.2.2.2.1 gX5_levelAfter_X5_requireRange rfl rfl rfl kdX5_requireRange.2 ⟨(Nat.le_of_ble_eq_true rfl), (Nat.le_of_ble_eq_true rfl)⟩)  rfl rfl hl.1 (Nat.le_of_ble_eq_true rfl) ⟨(Nat.le_of_ble_eq_true rfl), (Nat.le_of_ble_eq_true rfl)⟩ (Nat.le_of_ble_eq_true rfl) (Nat.le_of_ble_eq_true rfl) dX5_levelAfter_9 hf.symm
  refine kSxr (As := [.int x2, .int (0 : Int32), .int (9 : Int32)]) (rest := []) X hR hS (znX5_requireRange l D cy ad ba O S x2 (0 : Int32) (9 : Int32) hq_4) (va_cwS 3 X.2.2.2.2.2.1 gX5_levelAfter_X5_requireRange rfl rfl rfl kdX5_requireRange.2 ⟨(Nat.le_of_ble_eq_true rfl), (Nat.le_of_ble_eq_true rfl)⟩)  rfl rfl hl.1 (Nat.le_of_ble_eq_true rfl) ⟨(Nat.le_of_ble_eq_true rfl), (Nat.le_of_ble_eq_true rfl)⟩ dX5_levelAfter_9 (fun H locs hR hS => ?_)
  refine lv_aload_n hx hb dX5_levelAfter_12 rfl (lv_at hl 0 rfl) ?_
  refine rg_5_2 X hR iX5_levelAfter_5 wX5_levelAfter_23 dX5_levelAfter_13 ?_
  refine lv_aload_n hx hb dX5_levelAfter_16 rfl (lv_at hl 0 rfl) ?_
  refine rg_5_1 X hR iX5_levelAfter_5 wX5_levelAfter_19 dX5_levelAfter_17 ?_
  obtain ⟨S1, hq_6, hf⟩ := bd1_some hf
  refine kVv (id := (20 * 1)) (As := [.ref (ad (20 * 0))]) (rest := []) X hR hS (zcX1_copyFrom l D cy ad ba O S 1 0 (by decide) (by decide) _ hq_6) (cwV 1 X.2.2.2.2.2.1 gX5_levelAfter_X1_copyFrom rfl rfl rfl kdX1_copyFrom ⟨(Nat.le_of_ble_eq_true rfl), (Nat.le_of_ble_eq_true rfl)⟩) (te_idc (by decide)) (teE_circ cy ad O S (by decide)) rfl rfl rfl hl.1 (Nat.le_of_ble_eq_true rfl) ⟨(Nat.le_of_ble_eq_true rfl), (Nat.le_of_ble_eq_true rfl)⟩ dX5_levelAfter_20 (fun H locs hR hS => ?_)
  refine lv_iconst (v := (0 : Int32)) hx hb dX5_levelAfter_23 (by decide) ?_
  refine lv_istore_n (lv' := [(3, .int (0 : Int32)), (0, .ref (ad 360)), (1, .int x1), (2, .int x2)]) hx hb dX5_levelAfter_24 rfl hl (by decide) rfl (fun ls hl => ?_)
  refine W.widen (k := 1) (n := 6) (Nat.le_of_ble_eq_true rfl) (Nat.le_of_ble_eq_true rfl) ?_
  exact bX5_levelAfter_25 (S := S) (x1 := x1) (x2 := x2) X hN hl0 2000 S1 ((0 : Int32)) _ _ _ hR hS (lv_sub hl [1, 2, 3, 0] rfl) hf
theorem zcX5_levelAfter (l : Launch) (D : va_G) (cy : Nat → ClassId) (ad : Nat → Nat) (ba : Nat → Prop) (O : Int64) (S : teS) (x1 : Int32) (x2 : Int32) (hl0 : l.stackTraces = false) (res : (Nat ⊕ (Int32 × teS))) (hf : fX5_levelAfter x1 x2 S = some res) : xQ l yX5_levelAfter wsX5_levelAfter rmX5_levelAfter 1 6 D cy ad ba O S [.ref (ad 360), .int x1, .int x2] res :=
  te_ofx (by decide) rfl (Nat.le_of_ble_eq_true rfl) (fun p e s m below meth c ls X hN hR hS hl => bX5_levelAfter_0 (S := S) (x1 := x1) (x2 := x2) X hN hl0 _ _ _ hR hS hl hf)
abbrev rmX5_partsAfter : Room := { frames := 7, cells := 1, slots := 6, locals := 116 }
theorem kdX5_partsAfter : yX5_partsAfter.cls = RX5 ∧ yX5_partsAfter.cls ≠ "java/lang/invoke/MethodHandle" ∧ yX5_partsAfter.cls ≠ "java/lang/invoke/VarHandle" ∧ (parseMethodDescriptor yX5_partsAfter.desc).map (fun d => d.parameters.length) = some 2 := by decide +kernel
theorem wX5_partsAfter_23 : Cond.fieldLink RX5 23 "TandemExchange" "trial" "LTandemExchange$Circle;" ∈ wsX5_partsAfter := by decide +kernel
theorem iX5_partsAfter_5 : ∀ w ∈ wsX50, w ∈ wsX5_partsAfter := by decide +kernel
theorem wX5_partsAfter_19 : Cond.fieldLink RX5 19 "TandemExchange" "circle" "LTandemExchange$Circle;" ∈ wsX5_partsAfter := by decide +kernel
set_option maxRecDepth 100000 in
set_option maxHeartbeats 4000000 in
theorem bX5_partsAfter_31 {p : Program} {l : Launch} {e : Env} {s : State} {m : MethodId} {args : Array Value} {below : List Frame} {meth : Method} {c : Code} {D : va_G} {cy : Nat → ClassId} {ad : Nat → Nat} {ba : Nat → Prop} {O : Int64} {S : teS}  {x1 : Int32} {x2 : Int32} {res : (Nat ⊕ (Int32 × teS))} (X : teC wsX5_partsAfter RX5 cX5_partsAfter 4 (some .int) D cy ba p s m args meth c) (hN : ∀ x ∈ c.exceptionTable.toList, False) (hl0 : l.stackTraces = false) : ∀ (n : Nat), ∀ (S1 : teS) (v3 : Int32) (H : Heap) (locs : List Loc) (ls : Array Slot), teR D cy ad ba O S1 H → va_S (teA ba) s.heap H locs → lv_has ls 4 [(0, .ref (ad 360)), (1, .int x1), (2, .int x2), (3, .int v3)] → fX5_partsAfter_31 x1 x2 n S1 v3 = some res → W p l e (headSpec wsX5_partsAfter rmX5_partsAfter).room s m args below meth c H locs 1 6 (vx_MQ below (va_Qi (fun a u => Sum.inr (a, u) = res) (fun u t => teR D cy ad ba O u t.heap) (teA ba)) (teXC D cy ad ba O S (fun c => Sum.inl c = res)) args s 1 6 (teA ba)) (F0 m 31 ls []) := by
  have hx := X.1
  have hb := X.2.1
  have hown := X.2.2.2.2.1
  intro n
  induction n with
  | zero =>
    intro S1 v3 H locs ls hR hS hl hf
    exact nomatch hf
  | succ n ih =>
    intro S1 v3 H locs ls hR hS hl hf
    unfold fX5_partsAfter_31 at hf
    refine lv_iload_n hx hb dX5_partsAfter_31 rfl (lv_at hl 3 rfl) ?_
    refine lv_bipush (v := (100 : Int32)) hx hb dX5_partsAfter_32 (by decide) ?_
    refine lv_icmp_gt (tgt := 64) hx hb dX5_partsAfter_34 (by decide) (fun c_9 => ?_) (fun c_9 => ?_)
    · replace hf := ite_t c_9 hf
      refine lv_sipush (v := (-9999 : Int32)) hx hb dX5_partsAfter_64 (by decide) ?_
      exact eIx X hR hS (Option.some.inj hf) (Nat.le_of_ble_eq_true rfl) (Nat.le_of_ble_eq_true rfl) dX5_partsAfter_67
    · replace hf := ite_f c_9 hf
      refine lv_aload_n hx hb dX5_partsAfter_37 rfl (lv_at hl 0 rfl) ?_
      refine rg_5_2 X hR iX5_partsAfter_5 wX5_partsAfter_23 dX5_partsAfter_38 ?_
      refine lv_iload_n hx hb dX5_partsAfter_41 rfl (lv_at hl 2 rfl) ?_
      obtain ⟨S2, hq_11, hf⟩ := bd1_some hf
      refine kVv (id := (20 * 1)) (As := [.int x2]) (rest := []) X hR hS (zcX1_passWeek l D cy ad ba O S1 1 x2 (by decide) _ hq_11) (cwV 1 X.2.2.2.2.2.1 gX5_partsAfter_X1_passWeek rfl rfl rfl kdX1_passWeek ⟨(Nat.le_of_ble_eq_true rfl), (Nat.le_of_ble_eq_true rfl)⟩) (te_idc (by decide)) (teE_circ cy ad O S1 (by decide)) rfl rfl rfl hl.1 (Nat.le_of_ble_eq_true rfl) ⟨(Nat.le_of_ble_eq_true rfl), (Nat.le_of_ble_eq_true rfl)⟩ dX5_partsAfter_42 (fun H locs hR hS => ?_)
      refine lv_aload_n hx hb dX5_partsAfter_45 rfl (lv_at hl 0 rfl) ?_
      refine rg_5_2 X hR iX5_partsAfter_5 wX5_partsAfter_23 dX5_partsAfter_46 ?_
      refine lv_iload_n hx hb dX5_partsAfter_49 rfl (lv_at hl 1 rfl) ?_
      obtain ⟨r_12, hq_13, hf⟩ := bd1_some hf
      refine kVi (id := (20 * 1)) (As := [.int x1]) (rest := []) X hR hS (zcX1_isFree l D cy ad ba O S2 1 x1 (by decide) _ hq_13) (cwV 1 X.2.2.2.2.2.1 gX5_partsAfter_X1_isFree rfl rfl rfl kdX1_isFree ⟨(Nat.le_of_ble_eq_true rfl), (Nat.le_of_ble_eq_true rfl)⟩) (te_idc (by decide)) (teE_circ cy ad O S2 (by decide)) rfl rfl rfl hl.1 (Nat.le_of_ble_eq_true rfl) ⟨(Nat.le_of_ble_eq_true rfl), (Nat.le_of_ble_eq_true rfl)⟩ dX5_partsAfter_50 (fun H locs hR hS => ?_)
      refine lv_if_eq (tgt := 58) hx hb dX5_partsAfter_53 (by decide) (fun c_14 => ?_) (fun c_14 => ?_)
      · replace hf := ite_t c_14 hf
        refine lv_iinc (v := (v3 + (1 : Int32))) (lv' := [(3, .int (v3 + (1 : Int32))), (0, .ref (ad 360)), (1, .int x1), (2, .int x2)]) hx hb dX5_partsAfter_58 hl (k := 3) rfl rfl (by decide) rfl (fun ls hl => ?_)
        refine lv_goto (tgt := 31) hx hb dX5_partsAfter_61 (by decide) ?_
        exact ih S2 ((v3 + (1 : Int32))) _ _ _ hR hS (lv_sub hl [1, 2, 3, 0] rfl) hf
      · replace hf := ite_f c_14 hf
        refine lv_iload_n hx hb dX5_partsAfter_56 rfl (lv_at hl 3 rfl) ?_
        exact eIx X hR hS (Option.some.inj hf) (Nat.le_of_ble_eq_true rfl) (Nat.le_of_ble_eq_true rfl) dX5_partsAfter_57
set_option maxRecDepth 100000 in
set_option maxHeartbeats 4000000 in
theorem bX5_partsAfter_0 {p : Program} {l : Launch} {e : Env} {s : State} {m : MethodId} {args : Array Value} {below : List Frame} {meth : Method} {c : Code} {D : va_G} {cy : Nat → ClassId} {ad : Nat → Nat} {ba : Nat → Prop} {O : Int64} {S : teS}  {x1 : Int32} {x2 : Int32} {res : (Nat ⊕ (Int32 × teS))} (X : teC wsX5_partsAfter RX5 cX5_partsAfter 4 (some .int) D cy ba p s m args meth c) (hN : ∀ x ∈ c.exceptionTable.toList, False) (hl0 : l.stackTraces = false) (H : Heap) (locs : List Loc) (ls : Array Slot) (hR : teR D cy ad ba O S H) (hS : va_S (teA ba) s.heap H locs) (hl : lv_has ls 4 [(0, .ref (ad 360)), (1, .int x1), (2, .int x2)]) (hf : fX5_partsAfter x1 x2 S = some res) : W p l e (headSpec wsX5_partsAfter rmX5_partsAfter).room s m args below meth c H locs 0 0 (vx_MQ below (va_Qi (fun a u => Sum.inr (a, u) = res) (fun u t => teR D cy ad ba O u t.heap) (teA ba)) (teXC D cy ad ba O S (fun c => Sum.inl c = res)) args s 1 6 (teA ba)) (F0 m 0 ls []) := by
  have hx := X.1
  have hb := X.2.1
  have hown := X.2.2.2.2.1
  unfold fX5_partsAfter at hf
  refine lv_aload_n hx hb dX5_partsAfter_0 rfl (lv_at hl 0 rfl) ?_
  refine lv_iload_n hx hb dX5_partsAfter_1 rfl (lv_at hl 1 rfl) ?_
  rcases bx1_some hf with ⟨e_1, hq_2, hf⟩ | ⟨⟨⟩, hq_2, hf⟩
  · exact kVxl (id := 360) (As := [.int x1]) (rest := []) X hN hR hS (zcX5_requireMember l D cy ad ba O S x1 hl0 _ hq_2) (cwV 1 X.2.2.2.2.2.1 gX5_partsAfter_X5_requireMember rfl rfl rfl kdX5_requireMember ⟨(Nat.le_of_ble_eq_true rfl), (Nat.le_of_ble_eq_true rfl)⟩) (by decide) rfl rfl rfl rfl hl.1 (Nat.le_of_ble_eq_true rfl) ⟨(Nat.le_of_ble_eq_true rfl), (Nat.le_of_ble_eq_true rfl)⟩ (Nat.le_of_ble_eq_true rfl) (Nat.le_of_ble_eq_true rfl) dX5_partsAfter_2 hf.symm
  refine kVxr (id := 360) (As := [.int x1]) (rest := []) X hR hS (znX5_requireMember l D cy ad ba O S x1 hq_2) (cwV 1 X.2.2.2.2.2.1 gX5_partsAfter_X5_requireMember rfl rfl rfl kdX5_requireMember ⟨(Nat.le_of_ble_eq_true rfl), (Nat.le_of_ble_eq_true rfl)⟩) (by decide) rfl rfl rfl rfl hl.1 (Nat.le_of_ble_eq_true rfl) ⟨(Nat.le_of_ble_eq_true rfl), (Nat.le_of_ble_eq_true rfl)⟩ dX5_partsAfter_2 (fun H locs hR hS => ?_)
  refine lv_iload_n hx hb dX5_partsAfter_5 rfl (lv_at hl 2 rfl) ?_
  refine lv_iconst (v := (0 : Int32)) hx hb dX5_partsAfter_6 (by decide) ?_
  refine lv_sipush (v := (511 : Int32)) hx hb dX5_partsAfter_7 (by decide) ?_
  rcases bx1_some hf with ⟨e_3, hq_4, hf⟩ | ⟨⟨⟩, hq_4, hf⟩
  · exact kSxl (As := [.int x2, .int (0 : Int32), .int (511 : Int32)]) (rest := []) X hN hR hS (zcX5_requireRange l D cy ad ba O S x2 (0 : Int32) (511 : Int32) hl0 _ hq_4) (va_cwS 3 X.2.2.2.2.2.1 gX5_partsAfter_X5_requireRange rfl rfl rfl kdX5_requireRange.2 ⟨(Nat.le_of_ble_eq_true rfl), (Nat.le_of_ble_eq_true rfl)⟩)  rfl rfl hl.1 (Nat.le_of_ble_eq_true rfl) ⟨(Nat.le_of_ble_eq_true rfl), (Nat.le_of_ble_eq_true rfl)⟩ (Nat.le_of_ble_eq_true rfl) (Nat.le_of_ble_eq_true rfl) dX5_partsAfter_10 hf.symm
  refine kSxr (As := [.int x2, .int (0 : Int32), .int (511 : Int32)]) (rest := []) X hR hS (znX5_requireRange l D cy ad ba O S x2 (0 : Int32) (511 : Int32) hq_4) (va_cwS 3 X.2.2.2.2.2.1 gX5_partsAfter_X5_requireRange rfl rfl rfl kdX5_requireRange.2 ⟨(Nat.le_of_ble_eq_true rfl), (Nat.le_of_ble_eq_true rfl)⟩)  rfl rfl hl.1 (Nat.le_of_ble_eq_true rfl) ⟨(Nat.le_of_ble_eq_true rfl), (Nat.le_of_ble_eq_true rfl)⟩ dX5_partsAfter_10 (fun H locs hR hS => ?_)
  refine lv_aload_n hx hb dX5_partsAfter_13 rfl (lv_at hl 0 rfl) ?_
  refine lv_iload_n hx hb dX5_partsAfter_14 rfl (lv_at hl 1 rfl) ?_
  rcases bx1_some hf with ⟨e_5, hq_6, hf⟩ | ⟨⟨⟩, hq_6, hf⟩
  · exact kVxl (id := 360) (As := [.int x1]) (rest := []) X hN hR hS (zcX5_requirePartner l D cy ad ba O S x1 hl0 _ hq_6) (cwV 1 X.2.2.2.2.2.1 gX5_partsAfter_X5_requirePartner rfl rfl rfl kdX5_requirePartner ⟨(Nat.le_of_ble_eq_true rfl), (Nat.le_of_ble_eq_true rfl)⟩) (by decide) rfl rfl rfl rfl hl.1 (Nat.le_of_ble_eq_true rfl) ⟨(Nat.le_of_ble_eq_true rfl), (Nat.le_of_ble_eq_true rfl)⟩ (Nat.le_of_ble_eq_true rfl) (Nat.le_of_ble_eq_true rfl) dX5_partsAfter_15 hf.symm
  refine kVxr (id := 360) (As := [.int x1]) (rest := []) X hR hS (znX5_requirePartner l D cy ad ba O S x1 hq_6) (cwV 1 X.2.2.2.2.2.1 gX5_partsAfter_X5_requirePartner rfl rfl rfl kdX5_requirePartner ⟨(Nat.le_of_ble_eq_true rfl), (Nat.le_of_ble_eq_true rfl)⟩) (by decide) rfl rfl rfl rfl hl.1 (Nat.le_of_ble_eq_true rfl) ⟨(Nat.le_of_ble_eq_true rfl), (Nat.le_of_ble_eq_true rfl)⟩ dX5_partsAfter_15 (fun H locs hR hS => ?_)
  refine lv_aload_n hx hb dX5_partsAfter_18 rfl (lv_at hl 0 rfl) ?_
  refine rg_5_2 X hR iX5_partsAfter_5 wX5_partsAfter_23 dX5_partsAfter_19 ?_
  refine lv_aload_n hx hb dX5_partsAfter_22 rfl (lv_at hl 0 rfl) ?_
  refine rg_5_1 X hR iX5_partsAfter_5 wX5_partsAfter_19 dX5_partsAfter_23 ?_
  obtain ⟨S1, hq_8, hf⟩ := bd1_some hf
  refine kVv (id := (20 * 1)) (As := [.ref (ad (20 * 0))]) (rest := []) X hR hS (zcX1_copyFrom l D cy ad ba O S 1 0 (by decide) (by decide) _ hq_8) (cwV 1 X.2.2.2.2.2.1 gX5_partsAfter_X1_copyFrom rfl rfl rfl kdX1_copyFrom ⟨(Nat.le_of_ble_eq_true rfl), (Nat.le_of_ble_eq_true rfl)⟩) (te_idc (by decide)) (teE_circ cy ad O S (by decide)) rfl rfl rfl hl.1 (Nat.le_of_ble_eq_true rfl) ⟨(Nat.le_of_ble_eq_true rfl), (Nat.le_of_ble_eq_true rfl)⟩ dX5_partsAfter_26 (fun H locs hR hS => ?_)
  refine lv_iconst (v := (1 : Int32)) hx hb dX5_partsAfter_29 (by decide) ?_
  refine lv_istore_n (lv' := [(3, .int (1 : Int32)), (0, .ref (ad 360)), (1, .int x1), (2, .int x2)]) hx hb dX5_partsAfter_30 rfl hl (by decide) rfl (fun ls hl => ?_)
  refine W.widen (k := 1) (n := 6) (Nat.le_of_ble_eq_true rfl) (Nat.le_of_ble_eq_true rfl) ?_
  exact bX5_partsAfter_31 (S := S) (x1 := x1) (x2 := x2) X hN hl0 2000 S1 ((1 : Int32)) _ _ _ hR hS (lv_sub hl [1, 2, 3, 0] rfl) hf
theorem zcX5_partsAfter (l : Launch) (D : va_G) (cy : Nat → ClassId) (ad : Nat → Nat) (ba : Nat → Prop) (O : Int64) (S : teS) (x1 : Int32) (x2 : Int32) (hl0 : l.stackTraces = false) (res : (Nat ⊕ (Int32 × teS))) (hf : fX5_partsAfter x1 x2 S = some res) : xQ l yX5_partsAfter wsX5_partsAfter rmX5_partsAfter 1 6 D cy ad ba O S [.ref (ad 360), .int x1, .int x2] res :=
  te_ofx (by decide) rfl (Nat.le_of_ble_eq_true rfl) (fun p e s m below meth c ls X hN hR hS hl => bX5_partsAfter_0 (S := S) (x1 := x1) (x2 := x2) X hN hl0 _ _ _ hR hS hl hf)
abbrev rmX5_withoutLowestGroups : Room := { frames := 0, cells := 0, slots := 0, locals := 0 }
theorem kdX5_withoutLowestGroups : yX5_withoutLowestGroups.cls = RX5 ∧ yX5_withoutLowestGroups.cls ≠ "java/lang/invoke/MethodHandle" ∧ yX5_withoutLowestGroups.cls ≠ "java/lang/invoke/VarHandle" ∧ (parseMethodDescriptor yX5_withoutLowestGroups.desc).map (fun d => d.parameters.length) = some 2 := by decide +kernel
theorem wX5_withoutLowestGroups_238 : Cond.constantLong RX5 238 (10000) ∈ wsX5_withoutLowestGroups := by decide +kernel
set_option maxRecDepth 100000 in
set_option maxHeartbeats 4000000 in
theorem bX5_withoutLowestGroups_5 {p : Program} {l : Launch} {e : Env} {s : State} {m : MethodId} {args : Array Value} {below : List Frame} {meth : Method} {c : Code} {D : va_G} {cy : Nat → ClassId} {ad : Nat → Nat} {ba : Nat → Prop} {O : Int64} {S : teS}  {x0 : Int64} {x2 : Int32} {res : Int64} (X : teC wsX5_withoutLowestGroups RX5 cX5_withoutLowestGroups 6 (some .long) D cy ba p s m args meth c) : ∀ (n : Nat), ∀  (v3 : Int64) (v5 : Int32) (H : Heap) (locs : List Loc) (ls : Array Slot), teR D cy ad ba O S H → va_S (teA ba) s.heap H locs → lv_has ls 6 [(2, .int x2), (3, .long v3), (5, .int v5)] → fX5_withoutLowestGroups_5 x0 x2 n S v3 v5 = some res → W p l e (headSpec wsX5_withoutLowestGroups rmX5_withoutLowestGroups).room s m args below meth c H locs 0 0 (MQ below (va_Ql (fun a (u : teS) => a = res ∧ u = S) (fun u t => teR D cy ad ba O u t.heap) (teA ba)) args s 0 0 (teA ba)) (F0 m 5 ls []) := by
  have hx := X.1
  have hb := X.2.1
  have hown := X.2.2.2.2.1
  intro n
  induction n with
  | zero =>
    intro v3 v5 H locs ls hR hS hl hf
    exact nomatch hf
  | succ n ih =>
    intro v3 v5 H locs ls hR hS hl hf
    unfold fX5_withoutLowestGroups_5 at hf
    refine lv_iload hx hb dX5_withoutLowestGroups_5 (lv_at hl 2 rfl) ?_
    refine lv_iload_n hx hb dX5_withoutLowestGroups_7 rfl (lv_at hl 0 rfl) ?_
    refine lv_icmp_ge (tgt := 23) hx hb dX5_withoutLowestGroups_8 (by decide) (fun c_1 => ?_) (fun c_1 => ?_)
    · replace hf := ite_t c_1 hf
      refine lv_lload_n hx hb dX5_withoutLowestGroups_23 rfl (lv_at hl 1 rfl) ?_
      exact eJ X hR hS (Option.some.inj hf) rfl dX5_withoutLowestGroups_24
    · replace hf := ite_f c_1 hf
      refine lv_lload_n hx hb dX5_withoutLowestGroups_11 rfl (lv_at hl 1 rfl) ?_
      refine lv_ldc2 (v := (10000 : Int64)) hx hb hown (X.2.2.2.2.2.1 _ wX5_withoutLowestGroups_238) dX5_withoutLowestGroups_12 ?_
      refine lv_ldiv hx hb dX5_withoutLowestGroups_15 (by decide) ?_
      refine lv_lstore_n (lv' := [(3, .long (v3 / (10000 : Int64))), (2, .int x2), (5, .int v5)]) hx hb dX5_withoutLowestGroups_16 rfl hl (by decide) rfl (fun ls hl => ?_)
      refine lv_iinc (v := (v5 + (1 : Int32))) (lv' := [(5, .int (v5 + (1 : Int32))), (3, .long (v3 / (10000 : Int64))), (2, .int x2)]) hx hb dX5_withoutLowestGroups_17 hl (k := 2) rfl rfl (by decide) rfl (fun ls hl => ?_)
      refine lv_goto (tgt := 5) hx hb dX5_withoutLowestGroups_20 (by decide) ?_
      exact ih ((v3 / (10000 : Int64))) ((v5 + (1 : Int32))) _ _ _ hR hS (lv_sub hl [2, 1, 0] rfl) hf
set_option maxRecDepth 100000 in
set_option maxHeartbeats 4000000 in
theorem bX5_withoutLowestGroups_0 {p : Program} {l : Launch} {e : Env} {s : State} {m : MethodId} {args : Array Value} {below : List Frame} {meth : Method} {c : Code} {D : va_G} {cy : Nat → ClassId} {ad : Nat → Nat} {ba : Nat → Prop} {O : Int64} {S : teS}  {x0 : Int64} {x2 : Int32} {res : Int64} (X : teC wsX5_withoutLowestGroups RX5 cX5_withoutLowestGroups 6 (some .long) D cy ba p s m args meth c) (H : Heap) (locs : List Loc) (ls : Array Slot) (hR : teR D cy ad ba O S H) (hS : va_S (teA ba) s.heap H locs) (hl : lv_has ls 6 [(0, .long x0), (2, .int x2)]) (hf : fX5_withoutLowestGroups x0 x2 S = some res) : W p l e (headSpec wsX5_withoutLowestGroups rmX5_withoutLowestGroups).room s m args below meth c H locs 0 0 (MQ below (va_Ql (fun a (u : teS) => a = res ∧ u = S) (fun u t => teR D cy ad ba O u t.heap) (teA ba)) args s 0 0 (teA ba)) (F0 m 0 ls []) := by
  have hx := X.1
  have hb := X.2.1
  have hown := X.2.2.2.2.1
  unfold fX5_withoutLowestGroups at hf
  refine lv_lload_n hx hb dX5_withoutLowestGroups_0 rfl (lv_at hl 0 rfl) ?_
  refine lv_lstore_n (lv' := [(3, .long x0), (0, .long x0), (2, .int x2)]) hx hb dX5_withoutLowestGroups_1 rfl hl (by decide) rfl (fun ls hl => ?_)
  refine lv_iconst (v := (0 : Int32)) hx hb dX5_withoutLowestGroups_2 (by decide) ?_
  refine lv_istore (lv' := [(5, .int (0 : Int32)), (3, .long x0), (0, .long x0), (2, .int x2)]) hx hb dX5_withoutLowestGroups_3 hl (by decide) rfl (fun ls hl => ?_)
  exact bX5_withoutLowestGroups_5 (S := S) (x0 := x0) (x2 := x2) X 2000 (x0) ((0 : Int32)) _ _ _ hR hS (lv_sub hl [3, 1, 0] rfl) hf
theorem zcX5_withoutLowestGroups (l : Launch) (D : va_G) (cy : Nat → ClassId) (ad : Nat → Nat) (ba : Nat → Prop) (O : Int64) (S : teS) (x0 : Int64) (x2 : Int32) (res : Int64) (hf : fX5_withoutLowestGroups x0 x2 S = some res) : cJ l yX5_withoutLowestGroups wsX5_withoutLowestGroups rmX5_withoutLowestGroups D cy ad ba O S [.long x0, .int x2] res S :=
  te_of (by decide +kernel) rfl (Nat.le_of_ble_eq_true rfl) (fun p e s m below meth c ls X hR hS hl => bX5_withoutLowestGroups_0 (S := S) (x0 := x0) (x2 := x2) X _ _ _ hR hS hl hf)
abbrev rmX5_commandSucceeds : Room := { frames := 6, cells := 0, slots := 0, locals := 135 }
theorem kdX5_commandSucceeds : yX5_commandSucceeds.cls = RX5 ∧ yX5_commandSucceeds.cls ≠ "java/lang/invoke/MethodHandle" ∧ yX5_commandSucceeds.cls ≠ "java/lang/invoke/VarHandle" ∧ (parseMethodDescriptor yX5_commandSucceeds.desc).map (fun d => d.parameters.length) = some 1 := by decide +kernel
theorem wX5_commandSucceeds_23 : Cond.fieldLink RX5 23 "TandemExchange" "trial" "LTandemExchange$Circle;" ∈ wsX5_commandSucceeds := by decide +kernel
theorem iX5_commandSucceeds_5 : ∀ w ∈ wsX50, w ∈ wsX5_commandSucceeds := by decide +kernel
theorem wX5_commandSucceeds_143 : Cond.fieldLink RX5 143 "TandemExchange$Circle" "members" "[LTandemExchange$Member;" ∈ wsX5_commandSucceeds := by decide +kernel
theorem iX5_commandSucceeds_1 : ∀ w ∈ wsX10, w ∈ wsX5_commandSucceeds := by decide +kernel
theorem wX5_commandSucceeds_179 : Cond.fieldLink RX5 179 "TandemExchange$Member" "partner" "I" ∈ wsX5_commandSucceeds := by decide +kernel
theorem iX5_commandSucceeds_3 : ∀ w ∈ wsX30, w ∈ wsX5_commandSucceeds := by decide +kernel
theorem wX5_commandSucceeds_161 : Cond.fieldLink RX5 161 "TandemExchange$Member" "levels" "[I" ∈ wsX5_commandSucceeds := by decide +kernel
set_option maxRecDepth 100000 in
set_option maxHeartbeats 4000000 in
theorem bX5_commandSucceeds_0 {p : Program} {l : Launch} {e : Env} {s : State} {m : MethodId} {args : Array Value} {below : List Frame} {meth : Method} {c : Code} {D : va_G} {cy : Nat → ClassId} {ad : Nat → Nat} {ba : Nat → Prop} {O : Int64} {S : teS}  {x1 : Int32} {res : (Int32 × teS)} (X : teC wsX5_commandSucceeds RX5 cX5_commandSucceeds 7 (some .boolean) D cy ba p s m args meth c) (H : Heap) (locs : List Loc) (ls : Array Slot) (hR : teR D cy ad ba O S H) (hS : va_S (teA ba) s.heap H locs) (hl : lv_has ls 7 [(0, .ref (ad 360)), (1, .int x1)]) (hf : fX5_commandSucceeds x1 S = some res) : W p l e (headSpec wsX5_commandSucceeds rmX5_commandSucceeds).room s m args below meth c H locs 0 0 (MQ below (va_Qi (fun a (u : teS) => a = res.1 ∧ u = res.2) (fun u t => teR D cy ad ba O u t.heap) (teA ba)) args s 0 0 (teA ba)) (F0 m 0 ls []) := by
  have hx := X.1
  have hb := X.2.1
  have hown := X.2.2.2.2.1
  unfold fX5_commandSucceeds at hf
  refine lv_iload_n hx hb dX5_commandSucceeds_0 rfl (lv_at hl 1 rfl) ?_
  refine lv_bipush (v := (100 : Int32)) hx hb dX5_commandSucceeds_1 (by decide) ?_
  refine lv_idiv hx hb dX5_commandSucceeds_3 (by decide) ?_
  refine lv_bipush (v := (10 : Int32)) hx hb dX5_commandSucceeds_4 (by decide) ?_
  refine lv_irem hx hb dX5_commandSucceeds_6 (by decide) ?_
  refine lv_istore_n (lv' := [(2, .int ((x1 / (100 : Int32)) - (x1 / (100 : Int32)) / (10 : Int32) * (10 : Int32))), (0, .ref (ad 360)), (1, .int x1)]) hx hb dX5_commandSucceeds_7 rfl hl (by decide) rfl (fun ls hl => ?_)
  refine lv_iload_n hx hb dX5_commandSucceeds_8 rfl (lv_at hl 2 rfl) ?_
  refine lv_bipush (v := (10 : Int32)) hx hb dX5_commandSucceeds_9 (by decide) ?_
  refine lv_idiv hx hb dX5_commandSucceeds_11 (by decide) ?_
  refine lv_bipush (v := (10 : Int32)) hx hb dX5_commandSucceeds_12 (by decide) ?_
  refine lv_irem hx hb dX5_commandSucceeds_14 (by decide) ?_
  refine lv_istore_n (lv' := [(3, .int ((x1 / (10 : Int32)) - (x1 / (10 : Int32)) / (10 : Int32) * (10 : Int32))), (2, .int ((x1 / (100 : Int32)) - (x1 / (100 : Int32)) / (10 : Int32) * (10 : Int32))), (0, .ref (ad 360)), (1, .int x1)]) hx hb dX5_commandSucceeds_15 rfl hl (by decide) rfl (fun ls hl => ?_)
  refine lv_iload_n hx hb dX5_commandSucceeds_16 rfl (lv_at hl 3 rfl) ?_
  refine lv_bipush (v := (10 : Int32)) hx hb dX5_commandSucceeds_17 (by decide) ?_
  refine lv_irem hx hb dX5_commandSucceeds_19 (by decide) ?_
  refine lv_istore (lv' := [(4, .int (x1 - x1 / (10 : Int32) * (10 : Int32))), (3, .int ((x1 / (10 : Int32)) - (x1 / (10 : Int32)) / (10 : Int32) * (10 : Int32))), (2, .int ((x1 / (100 : Int32)) - (x1 / (100 : Int32)) / (10 : Int32) * (10 : Int32))), (0, .ref (ad 360)), (1, .int x1)]) hx hb dX5_commandSucceeds_20 hl (by decide) rfl (fun ls hl => ?_)
  refine lv_iload_n hx hb dX5_commandSucceeds_22 rfl (lv_at hl 4 rfl) ?_
  refine lv_sipush (v := (1000 : Int32)) hx hb dX5_commandSucceeds_23 (by decide) ?_
  refine lv_idiv hx hb dX5_commandSucceeds_26 (by decide) ?_
  by_cases c_1 : (x1 / (1000 : Int32)) = (1 : Int32)
  · replace hf := ite_t c_1 hf
    refine lv_tableIn (off := 49) (tgt := 76) hx hb dX5_commandSucceeds_27 (by rw [c_1]; decide) (by rw [c_1]; decide) (by rw [c_1]; decide) (by decide) ?_
    refine lv_iload hx hb dX5_commandSucceeds_76 (lv_at hl 0 rfl) ?_
    refine lv_if_ne (tgt := 120) hx hb dX5_commandSucceeds_78 (by decide) (fun c_2 => ?_) (fun c_2 => ?_)
    · replace hf := ite_f c_2 hf
      refine lv_iconst (v := (0 : Int32)) hx hb dX5_commandSucceeds_120 (by decide) ?_
      exact eZ X hR hS (by decide) (congrArg Prod.fst (Option.some.inj hf)) (congrArg Prod.snd (Option.some.inj hf)) dX5_commandSucceeds_121
    · replace hf := ite_t c_2 hf
      refine lv_aload_n hx hb dX5_commandSucceeds_81 rfl (lv_at hl 3 rfl) ?_
      refine rg_5_2 X hR iX5_commandSucceeds_5 wX5_commandSucceeds_23 dX5_commandSucceeds_82 ?_
      refine lv_iload_n hx hb dX5_commandSucceeds_85 rfl (lv_at hl 2 rfl) ?_
      obtain ⟨r_3, hq_4, hf⟩ := bd1_some hf
      refine kVi (id := (20 * 1)) (As := [.int ((x1 / (100 : Int32)) - (x1 / (100 : Int32)) / (10 : Int32) * (10 : Int32))]) (rest := []) X hR hS (zcX1_has l D cy ad ba O S 1 ((x1 / (100 : Int32)) - (x1 / (100 : Int32)) / (10 : Int32) * (10 : Int32)) (by decide) _ hq_4) (cwV 1 X.2.2.2.2.2.1 gX5_commandSucceeds_X1_has rfl rfl rfl kdX1_has ⟨(Nat.le_of_ble_eq_true rfl), (Nat.le_of_ble_eq_true rfl)⟩) (te_idc (by decide)) (teE_circ cy ad O S (by decide)) rfl rfl rfl hl.1 (Nat.le_of_ble_eq_true rfl) ⟨(Nat.le_of_ble_eq_true rfl), (Nat.le_of_ble_eq_true rfl)⟩ dX5_commandSucceeds_86 (fun H locs hR hS => ?_)
      refine lv_if_eq (tgt := 120) hx hb dX5_commandSucceeds_89 (by decide) (fun c_5 => ?_) (fun c_5 => ?_)
      · replace hf := ite_t c_5 hf
        refine lv_iconst (v := (0 : Int32)) hx hb dX5_commandSucceeds_120 (by decide) ?_
        exact eZ X hR hS (by decide) (congrArg Prod.fst (Option.some.inj hf)) (congrArg Prod.snd (Option.some.inj hf)) dX5_commandSucceeds_121
      · replace hf := ite_f c_5 hf
        refine lv_aload_n hx hb dX5_commandSucceeds_92 rfl (lv_at hl 3 rfl) ?_
        refine rg_5_2 X hR iX5_commandSucceeds_5 wX5_commandSucceeds_23 dX5_commandSucceeds_93 ?_
        refine lv_iload_n hx hb dX5_commandSucceeds_96 rfl (lv_at hl 1 rfl) ?_
        obtain ⟨r_6, hq_7, hf⟩ := bd1_some hf
        refine kVi (id := (20 * 1)) (As := [.int ((x1 / (10 : Int32)) - (x1 / (10 : Int32)) / (10 : Int32) * (10 : Int32))]) (rest := []) X hR hS (zcX1_has l D cy ad ba O S 1 ((x1 / (10 : Int32)) - (x1 / (10 : Int32)) / (10 : Int32) * (10 : Int32)) (by decide) _ hq_7) (cwV 1 X.2.2.2.2.2.1 gX5_commandSucceeds_X1_has rfl rfl rfl kdX1_has ⟨(Nat.le_of_ble_eq_true rfl), (Nat.le_of_ble_eq_true rfl)⟩) (te_idc (by decide)) (teE_circ cy ad O S (by decide)) rfl rfl rfl hl.1 (Nat.le_of_ble_eq_true rfl) ⟨(Nat.le_of_ble_eq_true rfl), (Nat.le_of_ble_eq_true rfl)⟩ dX5_commandSucceeds_97 (fun H locs hR hS => ?_)
        refine lv_if_eq (tgt := 120) hx hb dX5_commandSucceeds_100 (by decide) (fun c_8 => ?_) (fun c_8 => ?_)
        · replace hf := ite_t c_8 hf
          refine lv_iconst (v := (0 : Int32)) hx hb dX5_commandSucceeds_120 (by decide) ?_
          exact eZ X hR hS (by decide) (congrArg Prod.fst (Option.some.inj hf)) (congrArg Prod.snd (Option.some.inj hf)) dX5_commandSucceeds_121
        · replace hf := ite_f c_8 hf
          refine lv_iload_n hx hb dX5_commandSucceeds_103 rfl (lv_at hl 2 rfl) ?_
          refine lv_iload_n hx hb dX5_commandSucceeds_104 rfl (lv_at hl 1 rfl) ?_
          refine lv_icmp_eq (tgt := 120) hx hb dX5_commandSucceeds_105 (by decide) (fun c_9 => ?_) (fun c_9 => ?_)
          · replace hf := ite_t c_9 hf
            refine lv_iconst (v := (0 : Int32)) hx hb dX5_commandSucceeds_120 (by decide) ?_
            exact eZ X hR hS (by decide) (congrArg Prod.fst (Option.some.inj hf)) (congrArg Prod.snd (Option.some.inj hf)) dX5_commandSucceeds_121
          · replace hf := ite_f c_9 hf
            refine lv_aload_n hx hb dX5_commandSucceeds_108 rfl (lv_at hl 3 rfl) ?_
            refine rg_5_2 X hR iX5_commandSucceeds_5 wX5_commandSucceeds_23 dX5_commandSucceeds_109 ?_
            refine lv_iload_n hx hb dX5_commandSucceeds_112 rfl (lv_at hl 2 rfl) ?_
            refine lv_iload_n hx hb dX5_commandSucceeds_113 rfl (lv_at hl 1 rfl) ?_
            obtain ⟨r_10, hq_11, hf⟩ := bd1_some hf
            refine kVi (id := (20 * 1)) (As := [.int ((x1 / (100 : Int32)) - (x1 / (100 : Int32)) / (10 : Int32) * (10 : Int32)), .int ((x1 / (10 : Int32)) - (x1 / (10 : Int32)) / (10 : Int32) * (10 : Int32))]) (rest := []) X hR hS (zcX1_canBecomePartners l D cy ad ba O S 1 ((x1 / (100 : Int32)) - (x1 / (100 : Int32)) / (10 : Int32) * (10 : Int32)) ((x1 / (10 : Int32)) - (x1 / (10 : Int32)) / (10 : Int32) * (10 : Int32)) (by decide) _ hq_11) (cwV 2 X.2.2.2.2.2.1 gX5_commandSucceeds_X1_canBecomePartners rfl rfl rfl kdX1_canBecomePartners ⟨(Nat.le_of_ble_eq_true rfl), (Nat.le_of_ble_eq_true rfl)⟩) (te_idc (by decide)) (teE_circ cy ad O S (by decide)) rfl rfl rfl hl.1 (Nat.le_of_ble_eq_true rfl) ⟨(Nat.le_of_ble_eq_true rfl), (Nat.le_of_ble_eq_true rfl)⟩ dX5_commandSucceeds_114 (fun H locs hR hS => ?_)
            refine lv_if_ne (tgt := 122) hx hb dX5_commandSucceeds_117 (by decide) (fun c_12 => ?_) (fun c_12 => ?_)
            · replace hf := ite_f c_12 hf
              refine lv_aload_n hx hb dX5_commandSucceeds_122 rfl (lv_at hl 3 rfl) ?_
              refine rg_5_2 X hR iX5_commandSucceeds_5 wX5_commandSucceeds_23 dX5_commandSucceeds_123 ?_
              refine lv_iload_n hx hb dX5_commandSucceeds_126 rfl (lv_at hl 2 rfl) ?_
              refine lv_iload_n hx hb dX5_commandSucceeds_127 rfl (lv_at hl 1 rfl) ?_
              obtain ⟨S1, hq_14, hf⟩ := bd1_some hf
              refine kVv (id := (20 * 1)) (As := [.int ((x1 / (100 : Int32)) - (x1 / (100 : Int32)) / (10 : Int32) * (10 : Int32)), .int ((x1 / (10 : Int32)) - (x1 / (10 : Int32)) / (10 : Int32) * (10 : Int32))]) (rest := []) X hR hS (zcX1_unite l D cy ad ba O S 1 ((x1 / (100 : Int32)) - (x1 / (100 : Int32)) / (10 : Int32) * (10 : Int32)) ((x1 / (10 : Int32)) - (x1 / (10 : Int32)) / (10 : Int32) * (10 : Int32)) (by decide) _ hq_14) (cwV 2 X.2.2.2.2.2.1 gX5_commandSucceeds_X1_unite rfl rfl rfl kdX1_unite ⟨(Nat.le_of_ble_eq_true rfl), (Nat.le_of_ble_eq_true rfl)⟩) (te_idc (by decide)) (teE_circ cy ad O S (by decide)) rfl rfl rfl hl.1 (Nat.le_of_ble_eq_true rfl) ⟨(Nat.le_of_ble_eq_true rfl), (Nat.le_of_ble_eq_true rfl)⟩ dX5_commandSucceeds_128 (fun H locs hR hS => ?_)
              refine lv_iconst (v := (1 : Int32)) hx hb dX5_commandSucceeds_131 (by decide) ?_
              exact eZ X hR hS (by decide) (congrArg Prod.fst (Option.some.inj hf)) (congrArg Prod.snd (Option.some.inj hf)) dX5_commandSucceeds_132
            · replace hf := ite_t c_12 hf
              refine lv_iconst (v := (0 : Int32)) hx hb dX5_commandSucceeds_120 (by decide) ?_
              exact eZ X hR hS (by decide) (congrArg Prod.fst (Option.some.inj hf)) (congrArg Prod.snd (Option.some.inj hf)) dX5_commandSucceeds_121
  replace hf := ite_f c_1 hf
  by_cases c_15 : (x1 / (1000 : Int32)) = (2 : Int32)
  · replace hf := ite_t c_15 hf
    refine lv_tableIn (off := 106) (tgt := 133) hx hb dX5_commandSucceeds_27 (by rw [c_15]; decide) (by rw [c_15]; decide) (by rw [c_15]; decide) (by decide) ?_
    refine lv_iload_n hx hb dX5_commandSucceeds_133 rfl (lv_at hl 1 rfl) ?_
    refine lv_if_ne (tgt := 164) hx hb dX5_commandSucceeds_134 (by decide) (fun c_16 => ?_) (fun c_16 => ?_)
    · replace hf := ite_f c_16 hf
      refine lv_iconst (v := (0 : Int32)) hx hb dX5_commandSucceeds_164 (by decide) ?_
      exact eZ X hR hS (by decide) (congrArg Prod.fst (Option.some.inj hf)) (congrArg Prod.snd (Option.some.inj hf)) dX5_commandSucceeds_165
    · replace hf := ite_t c_16 hf
      refine lv_iload hx hb dX5_commandSucceeds_137 (lv_at hl 0 rfl) ?_
      refine lv_if_ne (tgt := 164) hx hb dX5_commandSucceeds_139 (by decide) (fun c_17 => ?_) (fun c_17 => ?_)
      · replace hf := ite_f c_17 hf
        refine lv_iconst (v := (0 : Int32)) hx hb dX5_commandSucceeds_164 (by decide) ?_
        exact eZ X hR hS (by decide) (congrArg Prod.fst (Option.some.inj hf)) (congrArg Prod.snd (Option.some.inj hf)) dX5_commandSucceeds_165
      · replace hf := ite_t c_17 hf
        refine lv_aload_n hx hb dX5_commandSucceeds_142 rfl (lv_at hl 3 rfl) ?_
        refine rg_5_2 X hR iX5_commandSucceeds_5 wX5_commandSucceeds_23 dX5_commandSucceeds_143 ?_
        refine lv_iload_n hx hb dX5_commandSucceeds_146 rfl (lv_at hl 2 rfl) ?_
        obtain ⟨r_18, hq_19, hf⟩ := bd1_some hf
        refine kVi (id := (20 * 1)) (As := [.int ((x1 / (100 : Int32)) - (x1 / (100 : Int32)) / (10 : Int32) * (10 : Int32))]) (rest := []) X hR hS (zcX1_has l D cy ad ba O S 1 ((x1 / (100 : Int32)) - (x1 / (100 : Int32)) / (10 : Int32) * (10 : Int32)) (by decide) _ hq_19) (cwV 1 X.2.2.2.2.2.1 gX5_commandSucceeds_X1_has rfl rfl rfl kdX1_has ⟨(Nat.le_of_ble_eq_true rfl), (Nat.le_of_ble_eq_true rfl)⟩) (te_idc (by decide)) (teE_circ cy ad O S (by decide)) rfl rfl rfl hl.1 (Nat.le_of_ble_eq_true rfl) ⟨(Nat.le_of_ble_eq_true rfl), (Nat.le_of_ble_eq_true rfl)⟩ dX5_commandSucceeds_147 (fun H locs hR hS => ?_)
        refine lv_if_eq (tgt := 164) hx hb dX5_commandSucceeds_150 (by decide) (fun c_20 => ?_) (fun c_20 => ?_)
        · replace hf := ite_t c_20 hf
          refine lv_iconst (v := (0 : Int32)) hx hb dX5_commandSucceeds_164 (by decide) ?_
          exact eZ X hR hS (by decide) (congrArg Prod.fst (Option.some.inj hf)) (congrArg Prod.snd (Option.some.inj hf)) dX5_commandSucceeds_165
        · replace hf := ite_f c_20 hf
          refine lv_aload_n hx hb dX5_commandSucceeds_153 rfl (lv_at hl 3 rfl) ?_
          refine rg_5_2 X hR iX5_commandSucceeds_5 wX5_commandSucceeds_23 dX5_commandSucceeds_154 ?_
          refine lv_iload_n hx hb dX5_commandSucceeds_157 rfl (lv_at hl 2 rfl) ?_
          obtain ⟨r_21, hq_22, hf⟩ := bd1_some hf
          refine kVi (id := (20 * 1)) (As := [.int ((x1 / (100 : Int32)) - (x1 / (100 : Int32)) / (10 : Int32) * (10 : Int32))]) (rest := []) X hR hS (zcX1_isFree l D cy ad ba O S 1 ((x1 / (100 : Int32)) - (x1 / (100 : Int32)) / (10 : Int32) * (10 : Int32)) (by decide) _ hq_22) (cwV 1 X.2.2.2.2.2.1 gX5_commandSucceeds_X1_isFree rfl rfl rfl kdX1_isFree ⟨(Nat.le_of_ble_eq_true rfl), (Nat.le_of_ble_eq_true rfl)⟩) (te_idc (by decide)) (teE_circ cy ad O S (by decide)) rfl rfl rfl hl.1 (Nat.le_of_ble_eq_true rfl) ⟨(Nat.le_of_ble_eq_true rfl), (Nat.le_of_ble_eq_true rfl)⟩ dX5_commandSucceeds_158 (fun H locs hR hS => ?_)
          refine lv_if_eq (tgt := 166) hx hb dX5_commandSucceeds_161 (by decide) (fun c_23 => ?_) (fun c_23 => ?_)
          · replace hf := ite_t c_23 hf
            refine lv_aload_n hx hb dX5_commandSucceeds_166 rfl (lv_at hl 3 rfl) ?_
            refine rg_5_2 X hR iX5_commandSucceeds_5 wX5_commandSucceeds_23 dX5_commandSucceeds_167 ?_
            refine lv_iload_n hx hb dX5_commandSucceeds_170 rfl (lv_at hl 2 rfl) ?_
            obtain ⟨S2, hq_25, hf⟩ := bd1_some hf
            refine kVv (id := (20 * 1)) (As := [.int ((x1 / (100 : Int32)) - (x1 / (100 : Int32)) / (10 : Int32) * (10 : Int32))]) (rest := []) X hR hS (zcX1_separate l D cy ad ba O S 1 ((x1 / (100 : Int32)) - (x1 / (100 : Int32)) / (10 : Int32) * (10 : Int32)) (by decide) _ hq_25) (cwV 1 X.2.2.2.2.2.1 gX5_commandSucceeds_X1_separate rfl rfl rfl kdX1_separate ⟨(Nat.le_of_ble_eq_true rfl), (Nat.le_of_ble_eq_true rfl)⟩) (te_idc (by decide)) (teE_circ cy ad O S (by decide)) rfl rfl rfl hl.1 (Nat.le_of_ble_eq_true rfl) ⟨(Nat.le_of_ble_eq_true rfl), (Nat.le_of_ble_eq_true rfl)⟩ dX5_commandSucceeds_171 (fun H locs hR hS => ?_)
            refine lv_iconst (v := (1 : Int32)) hx hb dX5_commandSucceeds_174 (by decide) ?_
            exact eZ X hR hS (by decide) (congrArg Prod.fst (Option.some.inj hf)) (congrArg Prod.snd (Option.some.inj hf)) dX5_commandSucceeds_175
          · replace hf := ite_f c_23 hf
            refine lv_iconst (v := (0 : Int32)) hx hb dX5_commandSucceeds_164 (by decide) ?_
            exact eZ X hR hS (by decide) (congrArg Prod.fst (Option.some.inj hf)) (congrArg Prod.snd (Option.some.inj hf)) dX5_commandSucceeds_165
  replace hf := ite_f c_15 hf
  by_cases c_26 : (x1 / (1000 : Int32)) = (3 : Int32)
  · replace hf := ite_t c_26 hf
    refine lv_tableIn (off := 149) (tgt := 176) hx hb dX5_commandSucceeds_27 (by rw [c_26]; decide) (by rw [c_26]; decide) (by rw [c_26]; decide) (by decide) ?_
    refine lv_iload_n hx hb dX5_commandSucceeds_176 rfl (lv_at hl 2 rfl) ?_
    refine lv_if_ne (tgt := 189) hx hb dX5_commandSucceeds_177 (by decide) (fun c_27 => ?_) (fun c_27 => ?_)
    · replace hf := ite_f c_27 hf
      refine lv_iconst (v := (0 : Int32)) hx hb dX5_commandSucceeds_189 (by decide) ?_
      exact eZ X hR hS (by decide) (congrArg Prod.fst (Option.some.inj hf)) (congrArg Prod.snd (Option.some.inj hf)) dX5_commandSucceeds_190
    · replace hf := ite_t c_27 hf
      refine lv_iload_n hx hb dX5_commandSucceeds_180 rfl (lv_at hl 1 rfl) ?_
      refine lv_if_ne (tgt := 189) hx hb dX5_commandSucceeds_181 (by decide) (fun c_28 => ?_) (fun c_28 => ?_)
      · replace hf := ite_f c_28 hf
        refine lv_iconst (v := (0 : Int32)) hx hb dX5_commandSucceeds_189 (by decide) ?_
        exact eZ X hR hS (by decide) (congrArg Prod.fst (Option.some.inj hf)) (congrArg Prod.snd (Option.some.inj hf)) dX5_commandSucceeds_190
      · replace hf := ite_t c_28 hf
        refine lv_iload hx hb dX5_commandSucceeds_184 (lv_at hl 0 rfl) ?_
        refine lv_if_eq (tgt := 191) hx hb dX5_commandSucceeds_186 (by decide) (fun c_29 => ?_) (fun c_29 => ?_)
        · replace hf := ite_t c_29 hf
          refine lv_aload_n hx hb dX5_commandSucceeds_191 rfl (lv_at hl 3 rfl) ?_
          refine rg_5_2 X hR iX5_commandSucceeds_5 wX5_commandSucceeds_23 dX5_commandSucceeds_192 ?_
          obtain ⟨r_30, S3, hq_31, hf⟩ := bd2_some hf
          refine kVi (id := (20 * 1)) (As := []) (rest := []) X hR hS (zcX1_matchFree l D cy ad ba O S 1 (by decide) _ _ hq_31) (cwV 0 X.2.2.2.2.2.1 gX5_commandSucceeds_X1_matchFree rfl rfl rfl kdX1_matchFree ⟨(Nat.le_of_ble_eq_true rfl), (Nat.le_of_ble_eq_true rfl)⟩) (te_idc (by decide)) (teE_circ cy ad O S (by decide)) rfl rfl rfl hl.1 (Nat.le_of_ble_eq_true rfl) ⟨(Nat.le_of_ble_eq_true rfl), (Nat.le_of_ble_eq_true rfl)⟩ dX5_commandSucceeds_195 (fun H locs hR hS => ?_)
          refine lv_pop hx hb dX5_commandSucceeds_198 rfl ?_
          refine lv_iconst (v := (1 : Int32)) hx hb dX5_commandSucceeds_199 (by decide) ?_
          exact eZ X hR hS (by decide) (congrArg Prod.fst (Option.some.inj hf)) (congrArg Prod.snd (Option.some.inj hf)) dX5_commandSucceeds_200
        · replace hf := ite_f c_29 hf
          refine lv_iconst (v := (0 : Int32)) hx hb dX5_commandSucceeds_189 (by decide) ?_
          exact eZ X hR hS (by decide) (congrArg Prod.fst (Option.some.inj hf)) (congrArg Prod.snd (Option.some.inj hf)) dX5_commandSucceeds_190
  replace hf := ite_f c_26 hf
  by_cases c_32 : (x1 / (1000 : Int32)) = (4 : Int32)
  · replace hf := ite_t c_32 hf
    refine lv_tableIn (off := 174) (tgt := 201) hx hb dX5_commandSucceeds_27 (by rw [c_32]; decide) (by rw [c_32]; decide) (by rw [c_32]; decide) (by decide) ?_
    refine lv_bipush (v := (10 : Int32)) hx hb dX5_commandSucceeds_201 (by decide) ?_
    refine lv_iload_n hx hb dX5_commandSucceeds_203 rfl (lv_at hl 1 rfl) ?_
    refine lv_imul hx hb dX5_commandSucceeds_204 ?_
    refine lv_iload hx hb dX5_commandSucceeds_205 (lv_at hl 0 rfl) ?_
    refine lv_iadd hx hb dX5_commandSucceeds_207 ?_
    refine lv_istore (lv' := [(5, .int (((10 : Int32) * ((x1 / (10 : Int32)) - (x1 / (10 : Int32)) / (10 : Int32) * (10 : Int32))) + (x1 - x1 / (10 : Int32) * (10 : Int32)))), (4, .int (x1 - x1 / (10 : Int32) * (10 : Int32))), (3, .int ((x1 / (10 : Int32)) - (x1 / (10 : Int32)) / (10 : Int32) * (10 : Int32))), (2, .int ((x1 / (100 : Int32)) - (x1 / (100 : Int32)) / (10 : Int32) * (10 : Int32))), (0, .ref (ad 360)), (1, .int x1)]) hx hb dX5_commandSucceeds_208 hl (by decide) rfl (fun ls hl => ?_)
    refine lv_iload_n hx hb dX5_commandSucceeds_210 rfl (lv_at hl 3 rfl) ?_
    refine lv_if_ne (tgt := 227) hx hb dX5_commandSucceeds_211 (by decide) (fun c_33 => ?_) (fun c_33 => ?_)
    · replace hf := ite_f c_33 hf
      refine lv_iconst (v := (0 : Int32)) hx hb dX5_commandSucceeds_227 (by decide) ?_
      exact eZ X hR hS (by decide) (congrArg Prod.fst (Option.some.inj hf)) (congrArg Prod.snd (Option.some.inj hf)) dX5_commandSucceeds_228
    · replace hf := ite_t c_33 hf
      refine lv_iload hx hb dX5_commandSucceeds_214 (lv_at hl 0 rfl) ?_
      refine lv_iconst (v := (1 : Int32)) hx hb dX5_commandSucceeds_216 (by decide) ?_
      refine lv_icmp_lt (tgt := 227) hx hb dX5_commandSucceeds_217 (by decide) (fun c_34 => ?_) (fun c_34 => ?_)
      · replace hf := ite_t c_34 hf
        refine lv_iconst (v := (0 : Int32)) hx hb dX5_commandSucceeds_227 (by decide) ?_
        exact eZ X hR hS (by decide) (congrArg Prod.fst (Option.some.inj hf)) (congrArg Prod.snd (Option.some.inj hf)) dX5_commandSucceeds_228
      · replace hf := ite_f c_34 hf
        refine lv_iload hx hb dX5_commandSucceeds_220 (lv_at hl 0 rfl) ?_
        refine lv_bipush (v := (50 : Int32)) hx hb dX5_commandSucceeds_222 (by decide) ?_
        refine lv_icmp_le (tgt := 229) hx hb dX5_commandSucceeds_224 (by decide) (fun c_35 => ?_) (fun c_35 => ?_)
        · replace hf := ite_t c_35 hf
          refine lv_aload_n hx hb dX5_commandSucceeds_229 rfl (lv_at hl 4 rfl) ?_
          refine rg_5_2 X hR iX5_commandSucceeds_5 wX5_commandSucceeds_23 dX5_commandSucceeds_230 ?_
          refine lv_iload hx hb dX5_commandSucceeds_233 (lv_at hl 0 rfl) ?_
          obtain ⟨r_36, S4, hq_37, hf⟩ := bd2_some hf
          refine kVi (id := (20 * 1)) (As := [.int (((10 : Int32) * ((x1 / (10 : Int32)) - (x1 / (10 : Int32)) / (10 : Int32) * (10 : Int32))) + (x1 - x1 / (10 : Int32) * (10 : Int32)))]) (rest := []) X hR hS (zcX1_settleBy l D cy ad ba O S 1 (((10 : Int32) * ((x1 / (10 : Int32)) - (x1 / (10 : Int32)) / (10 : Int32) * (10 : Int32))) + (x1 - x1 / (10 : Int32) * (10 : Int32))) (by decide) _ _ hq_37) (cwV 1 X.2.2.2.2.2.1 gX5_commandSucceeds_X1_settleBy rfl rfl rfl kdX1_settleBy ⟨(Nat.le_of_ble_eq_true rfl), (Nat.le_of_ble_eq_true rfl)⟩) (te_idc (by decide)) (teE_circ cy ad O S (by decide)) rfl rfl rfl hl.1 (Nat.le_of_ble_eq_true rfl) ⟨(Nat.le_of_ble_eq_true rfl), (Nat.le_of_ble_eq_true rfl)⟩ dX5_commandSucceeds_235 (fun H locs hR hS => ?_)
          refine lv_pop hx hb dX5_commandSucceeds_238 rfl ?_
          refine lv_iconst (v := (1 : Int32)) hx hb dX5_commandSucceeds_239 (by decide) ?_
          exact eZ X hR hS (by decide) (congrArg Prod.fst (Option.some.inj hf)) (congrArg Prod.snd (Option.some.inj hf)) dX5_commandSucceeds_240
        · replace hf := ite_f c_35 hf
          refine lv_iconst (v := (0 : Int32)) hx hb dX5_commandSucceeds_227 (by decide) ?_
          exact eZ X hR hS (by decide) (congrArg Prod.fst (Option.some.inj hf)) (congrArg Prod.snd (Option.some.inj hf)) dX5_commandSucceeds_228
  replace hf := ite_f c_32 hf
  by_cases c_38 : (x1 / (1000 : Int32)) = (5 : Int32)
  · replace hf := ite_t c_38 hf
    refine lv_tableIn (off := 214) (tgt := 241) hx hb dX5_commandSucceeds_27 (by rw [c_38]; decide) (by rw [c_38]; decide) (by rw [c_38]; decide) (by decide) ?_
    refine lv_bipush (v := (100 : Int32)) hx hb dX5_commandSucceeds_241 (by decide) ?_
    refine lv_iload_n hx hb dX5_commandSucceeds_243 rfl (lv_at hl 2 rfl) ?_
    refine lv_imul hx hb dX5_commandSucceeds_244 ?_
    refine lv_bipush (v := (10 : Int32)) hx hb dX5_commandSucceeds_245 (by decide) ?_
    refine lv_iload_n hx hb dX5_commandSucceeds_247 rfl (lv_at hl 1 rfl) ?_
    refine lv_imul hx hb dX5_commandSucceeds_248 ?_
    refine lv_iadd hx hb dX5_commandSucceeds_249 ?_
    refine lv_iload hx hb dX5_commandSucceeds_250 (lv_at hl 0 rfl) ?_
    refine lv_iadd hx hb dX5_commandSucceeds_252 ?_
    refine lv_istore (lv' := [(6, .int ((((100 : Int32) * ((x1 / (100 : Int32)) - (x1 / (100 : Int32)) / (10 : Int32) * (10 : Int32))) + ((10 : Int32) * ((x1 / (10 : Int32)) - (x1 / (10 : Int32)) / (10 : Int32) * (10 : Int32)))) + (x1 - x1 / (10 : Int32) * (10 : Int32)))), (4, .int (x1 - x1 / (10 : Int32) * (10 : Int32))), (3, .int ((x1 / (10 : Int32)) - (x1 / (10 : Int32)) / (10 : Int32) * (10 : Int32))), (2, .int ((x1 / (100 : Int32)) - (x1 / (100 : Int32)) / (10 : Int32) * (10 : Int32))), (0, .ref (ad 360)), (1, .int x1)]) hx hb dX5_commandSucceeds_253 hl (by decide) rfl (fun ls hl => ?_)
    refine lv_iload hx hb dX5_commandSucceeds_255 (lv_at hl 0 rfl) ?_
    refine lv_sipush (v := (511 : Int32)) hx hb dX5_commandSucceeds_257 (by decide) ?_
    refine lv_icmp_le (tgt := 265) hx hb dX5_commandSucceeds_260 (by decide) (fun c_39 => ?_) (fun c_39 => ?_)
    · replace hf := ite_t c_39 hf
      refine lv_aload_n hx hb dX5_commandSucceeds_265 rfl (lv_at hl 4 rfl) ?_
      refine rg_5_2 X hR iX5_commandSucceeds_5 wX5_commandSucceeds_23 dX5_commandSucceeds_266 ?_
      refine lv_iload hx hb dX5_commandSucceeds_269 (lv_at hl 0 rfl) ?_
      obtain ⟨S5, hq_41, hf⟩ := bd1_some hf
      refine kVv (id := (20 * 1)) (As := [.int ((((100 : Int32) * ((x1 / (100 : Int32)) - (x1 / (100 : Int32)) / (10 : Int32) * (10 : Int32))) + ((10 : Int32) * ((x1 / (10 : Int32)) - (x1 / (10 : Int32)) / (10 : Int32) * (10 : Int32)))) + (x1 - x1 / (10 : Int32) * (10 : Int32)))]) (rest := []) X hR hS (zcX1_passWeek l D cy ad ba O S 1 ((((100 : Int32) * ((x1 / (100 : Int32)) - (x1 / (100 : Int32)) / (10 : Int32) * (10 : Int32))) + ((10 : Int32) * ((x1 / (10 : Int32)) - (x1 / (10 : Int32)) / (10 : Int32) * (10 : Int32)))) + (x1 - x1 / (10 : Int32) * (10 : Int32))) (by decide) _ hq_41) (cwV 1 X.2.2.2.2.2.1 gX5_commandSucceeds_X1_passWeek rfl rfl rfl kdX1_passWeek ⟨(Nat.le_of_ble_eq_true rfl), (Nat.le_of_ble_eq_true rfl)⟩) (te_idc (by decide)) (teE_circ cy ad O S (by decide)) rfl rfl rfl hl.1 (Nat.le_of_ble_eq_true rfl) ⟨(Nat.le_of_ble_eq_true rfl), (Nat.le_of_ble_eq_true rfl)⟩ dX5_commandSucceeds_271 (fun H locs hR hS => ?_)
      refine lv_iconst (v := (1 : Int32)) hx hb dX5_commandSucceeds_274 (by decide) ?_
      exact eZ X hR hS (by decide) (congrArg Prod.fst (Option.some.inj hf)) (congrArg Prod.snd (Option.some.inj hf)) dX5_commandSucceeds_275
    · replace hf := ite_f c_39 hf
      refine lv_iconst (v := (0 : Int32)) hx hb dX5_commandSucceeds_263 (by decide) ?_
      exact eZ X hR hS (by decide) (congrArg Prod.fst (Option.some.inj hf)) (congrArg Prod.snd (Option.some.inj hf)) dX5_commandSucceeds_264
  replace hf := ite_f c_38 hf
  by_cases c_42 : (x1 / (1000 : Int32)) = (6 : Int32)
  · replace hf := ite_t c_42 hf
    refine lv_tableIn (off := 249) (tgt := 276) hx hb dX5_commandSucceeds_27 (by rw [c_42]; decide) (by rw [c_42]; decide) (by rw [c_42]; decide) (by decide) ?_
    refine lv_aload_n hx hb dX5_commandSucceeds_276 rfl (lv_at hl 3 rfl) ?_
    refine rg_5_2 X hR iX5_commandSucceeds_5 wX5_commandSucceeds_23 dX5_commandSucceeds_277 ?_
    refine lv_iload_n hx hb dX5_commandSucceeds_280 rfl (lv_at hl 2 rfl) ?_
    obtain ⟨r_43, hq_44, hf⟩ := bd1_some hf
    refine kVi (id := (20 * 1)) (As := [.int ((x1 / (100 : Int32)) - (x1 / (100 : Int32)) / (10 : Int32) * (10 : Int32))]) (rest := []) X hR hS (zcX1_has l D cy ad ba O S 1 ((x1 / (100 : Int32)) - (x1 / (100 : Int32)) / (10 : Int32) * (10 : Int32)) (by decide) _ hq_44) (cwV 1 X.2.2.2.2.2.1 gX5_commandSucceeds_X1_has rfl rfl rfl kdX1_has ⟨(Nat.le_of_ble_eq_true rfl), (Nat.le_of_ble_eq_true rfl)⟩) (te_idc (by decide)) (teE_circ cy ad O S (by decide)) rfl rfl rfl hl.1 (Nat.le_of_ble_eq_true rfl) ⟨(Nat.le_of_ble_eq_true rfl), (Nat.le_of_ble_eq_true rfl)⟩ dX5_commandSucceeds_281 (fun H locs hR hS => ?_)
    refine lv_if_eq (tgt := 292) hx hb dX5_commandSucceeds_284 (by decide) (fun c_45 => ?_) (fun c_45 => ?_)
    · replace hf := ite_t c_45 hf
      refine lv_iconst (v := (0 : Int32)) hx hb dX5_commandSucceeds_292 (by decide) ?_
      exact eZ X hR hS (by decide) (congrArg Prod.fst (Option.some.inj hf)) (congrArg Prod.snd (Option.some.inj hf)) dX5_commandSucceeds_293
    · replace hf := ite_f c_45 hf
      refine lv_iload_n hx hb dX5_commandSucceeds_287 rfl (lv_at hl 1 rfl) ?_
      refine lv_iconst (v := (4 : Int32)) hx hb dX5_commandSucceeds_288 (by decide) ?_
      refine lv_icmp_lt (tgt := 294) hx hb dX5_commandSucceeds_289 (by decide) (fun c_46 => ?_) (fun c_46 => ?_)
      · replace hf := ite_t c_46 hf
        refine lv_aload_n hx hb dX5_commandSucceeds_294 rfl (lv_at hl 3 rfl) ?_
        refine rg_5_2 X hR iX5_commandSucceeds_5 wX5_commandSucceeds_23 dX5_commandSucceeds_295 ?_
        refine lv_iload_n hx hb dX5_commandSucceeds_298 rfl (lv_at hl 2 rfl) ?_
        refine lv_iload_n hx hb dX5_commandSucceeds_299 rfl (lv_at hl 1 rfl) ?_
        refine lv_bipush (v := (10 : Int32)) hx hb dX5_commandSucceeds_300 (by decide) ?_
        refine lv_iload hx hb dX5_commandSucceeds_302 (lv_at hl 0 rfl) ?_
        refine lv_imul hx hb dX5_commandSucceeds_304 ?_
        obtain ⟨S6, hq_48, hf⟩ := bd1_some hf
        refine kVv (id := (20 * 1)) (As := [.int ((x1 / (100 : Int32)) - (x1 / (100 : Int32)) / (10 : Int32) * (10 : Int32)), .int ((x1 / (10 : Int32)) - (x1 / (10 : Int32)) / (10 : Int32) * (10 : Int32)), .int ((10 : Int32) * (x1 - x1 / (10 : Int32) * (10 : Int32)))]) (rest := []) X hR hS (zcX1_grade l D cy ad ba O S 1 ((x1 / (100 : Int32)) - (x1 / (100 : Int32)) / (10 : Int32) * (10 : Int32)) ((x1 / (10 : Int32)) - (x1 / (10 : Int32)) / (10 : Int32) * (10 : Int32)) ((10 : Int32) * (x1 - x1 / (10 : Int32) * (10 : Int32))) (by decide) _ hq_48) (cwV 3 X.2.2.2.2.2.1 gX5_commandSucceeds_X1_grade rfl rfl rfl kdX1_grade ⟨(Nat.le_of_ble_eq_true rfl), (Nat.le_of_ble_eq_true rfl)⟩) (te_idc (by decide)) (teE_circ cy ad O S (by decide)) rfl rfl rfl hl.1 (Nat.le_of_ble_eq_true rfl) ⟨(Nat.le_of_ble_eq_true rfl), (Nat.le_of_ble_eq_true rfl)⟩ dX5_commandSucceeds_305 (fun H locs hR hS => ?_)
        refine lv_iconst (v := (1 : Int32)) hx hb dX5_commandSucceeds_308 (by decide) ?_
        exact eZ X hR hS (by decide) (congrArg Prod.fst (Option.some.inj hf)) (congrArg Prod.snd (Option.some.inj hf)) dX5_commandSucceeds_309
      · replace hf := ite_f c_46 hf
        refine lv_iconst (v := (0 : Int32)) hx hb dX5_commandSucceeds_292 (by decide) ?_
        exact eZ X hR hS (by decide) (congrArg Prod.fst (Option.some.inj hf)) (congrArg Prod.snd (Option.some.inj hf)) dX5_commandSucceeds_293
  replace hf := ite_f c_42 hf
  by_cases c_49 : (x1 / (1000 : Int32)) = (7 : Int32)
  · replace hf := ite_t c_49 hf
    refine lv_tableIn (off := 283) (tgt := 310) hx hb dX5_commandSucceeds_27 (by rw [c_49]; decide) (by rw [c_49]; decide) (by rw [c_49]; decide) (by decide) ?_
    refine lv_iload hx hb dX5_commandSucceeds_310 (lv_at hl 0 rfl) ?_
    refine lv_if_ne (tgt := 357) hx hb dX5_commandSucceeds_312 (by decide) (fun c_50 => ?_) (fun c_50 => ?_)
    · replace hf := ite_f c_50 hf
      refine lv_iconst (v := (0 : Int32)) hx hb dX5_commandSucceeds_357 (by decide) ?_
      exact eZ X hR hS (by decide) (congrArg Prod.fst (Option.some.inj hf)) (congrArg Prod.snd (Option.some.inj hf)) dX5_commandSucceeds_358
    · replace hf := ite_t c_50 hf
      refine lv_aload_n hx hb dX5_commandSucceeds_315 rfl (lv_at hl 3 rfl) ?_
      refine rg_5_2 X hR iX5_commandSucceeds_5 wX5_commandSucceeds_23 dX5_commandSucceeds_316 ?_
      refine lv_iload_n hx hb dX5_commandSucceeds_319 rfl (lv_at hl 2 rfl) ?_
      obtain ⟨r_51, hq_52, hf⟩ := bd1_some hf
      refine kVi (id := (20 * 1)) (As := [.int ((x1 / (100 : Int32)) - (x1 / (100 : Int32)) / (10 : Int32) * (10 : Int32))]) (rest := []) X hR hS (zcX1_has l D cy ad ba O S 1 ((x1 / (100 : Int32)) - (x1 / (100 : Int32)) / (10 : Int32) * (10 : Int32)) (by decide) _ hq_52) (cwV 1 X.2.2.2.2.2.1 gX5_commandSucceeds_X1_has rfl rfl rfl kdX1_has ⟨(Nat.le_of_ble_eq_true rfl), (Nat.le_of_ble_eq_true rfl)⟩) (te_idc (by decide)) (teE_circ cy ad O S (by decide)) rfl rfl rfl hl.1 (Nat.le_of_ble_eq_true rfl) ⟨(Nat.le_of_ble_eq_true rfl), (Nat.le_of_ble_eq_true rfl)⟩ dX5_commandSucceeds_320 (fun H locs hR hS => ?_)
      refine lv_if_eq (tgt := 357) hx hb dX5_commandSucceeds_323 (by decide) (fun c_53 => ?_) (fun c_53 => ?_)
      · replace hf := ite_t c_53 hf
        refine lv_iconst (v := (0 : Int32)) hx hb dX5_commandSucceeds_357 (by decide) ?_
        exact eZ X hR hS (by decide) (congrArg Prod.fst (Option.some.inj hf)) (congrArg Prod.snd (Option.some.inj hf)) dX5_commandSucceeds_358
      · replace hf := ite_f c_53 hf
        refine lv_aload_n hx hb dX5_commandSucceeds_326 rfl (lv_at hl 3 rfl) ?_
        refine rg_5_2 X hR iX5_commandSucceeds_5 wX5_commandSucceeds_23 dX5_commandSucceeds_327 ?_
        refine lv_iload_n hx hb dX5_commandSucceeds_330 rfl (lv_at hl 1 rfl) ?_
        obtain ⟨r_54, hq_55, hf⟩ := bd1_some hf
        refine kVi (id := (20 * 1)) (As := [.int ((x1 / (10 : Int32)) - (x1 / (10 : Int32)) / (10 : Int32) * (10 : Int32))]) (rest := []) X hR hS (zcX1_has l D cy ad ba O S 1 ((x1 / (10 : Int32)) - (x1 / (10 : Int32)) / (10 : Int32) * (10 : Int32)) (by decide) _ hq_55) (cwV 1 X.2.2.2.2.2.1 gX5_commandSucceeds_X1_has rfl rfl rfl kdX1_has ⟨(Nat.le_of_ble_eq_true rfl), (Nat.le_of_ble_eq_true rfl)⟩) (te_idc (by decide)) (teE_circ cy ad O S (by decide)) rfl rfl rfl hl.1 (Nat.le_of_ble_eq_true rfl) ⟨(Nat.le_of_ble_eq_true rfl), (Nat.le_of_ble_eq_true rfl)⟩ dX5_commandSucceeds_331 (fun H locs hR hS => ?_)
        refine lv_if_eq (tgt := 357) hx hb dX5_commandSucceeds_334 (by decide) (fun c_56 => ?_) (fun c_56 => ?_)
        · replace hf := ite_t c_56 hf
          refine lv_iconst (v := (0 : Int32)) hx hb dX5_commandSucceeds_357 (by decide) ?_
          exact eZ X hR hS (by decide) (congrArg Prod.fst (Option.some.inj hf)) (congrArg Prod.snd (Option.some.inj hf)) dX5_commandSucceeds_358
        · replace hf := ite_f c_56 hf
          refine lv_aload_n hx hb dX5_commandSucceeds_337 rfl (lv_at hl 3 rfl) ?_
          refine rg_5_2 X hR iX5_commandSucceeds_5 wX5_commandSucceeds_23 dX5_commandSucceeds_338 ?_
          refine rg_1_0 X hR (by decide) iX5_commandSucceeds_1 wX5_commandSucceeds_143 dX5_commandSucceeds_341 ?_
          refine lv_iload_n hx hb dX5_commandSucceeds_344 rfl (lv_at hl 2 rfl) ?_
          obtain ⟨h_57, hf⟩ := chk_some hf
          refine ra_mem X hR (by decide) h_57 dX5_commandSucceeds_345 ?_
          refine rg_3_5 X hR (by decide) (tein_lt h_57) iX5_commandSucceeds_3 wX5_commandSucceeds_179 dX5_commandSucceeds_346 ?_
          refine lv_iload_n hx hb dX5_commandSucceeds_349 rfl (lv_at hl 1 rfl) ?_
          refine lv_icmp_ne (tgt := 357) hx hb dX5_commandSucceeds_350 (by decide) (fun c_58 => ?_) (fun c_58 => ?_)
          · replace hf := ite_f c_58 hf
            refine lv_iconst (v := (0 : Int32)) hx hb dX5_commandSucceeds_357 (by decide) ?_
            exact eZ X hR hS (by decide) (congrArg Prod.fst (Option.some.inj hf)) (congrArg Prod.snd (Option.some.inj hf)) dX5_commandSucceeds_358
          · replace hf := ite_t c_58 hf
            refine lv_iconst (v := (1 : Int32)) hx hb dX5_commandSucceeds_353 (by decide) ?_
            refine lv_goto (tgt := 358) hx hb dX5_commandSucceeds_354 (by decide) ?_
            exact eZ X hR hS (by decide) (congrArg Prod.fst (Option.some.inj hf)) (congrArg Prod.snd (Option.some.inj hf)) dX5_commandSucceeds_358
  replace hf := ite_f c_49 hf
  by_cases c_59 : (x1 / (1000 : Int32)) = (8 : Int32)
  · replace hf := ite_t c_59 hf
    refine lv_tableIn (off := 332) (tgt := 359) hx hb dX5_commandSucceeds_27 (by rw [c_59]; decide) (by rw [c_59]; decide) (by rw [c_59]; decide) (by decide) ?_
    refine lv_iload_n hx hb dX5_commandSucceeds_359 rfl (lv_at hl 2 rfl) ?_
    refine lv_if_ne (tgt := 383) hx hb dX5_commandSucceeds_360 (by decide) (fun c_60 => ?_) (fun c_60 => ?_)
    · replace hf := ite_f c_60 hf
      refine lv_iconst (v := (0 : Int32)) hx hb dX5_commandSucceeds_383 (by decide) ?_
      exact eZ X hR hS (by decide) (congrArg Prod.fst (Option.some.inj hf)) (congrArg Prod.snd (Option.some.inj hf)) dX5_commandSucceeds_384
    · replace hf := ite_t c_60 hf
      refine lv_iload_n hx hb dX5_commandSucceeds_363 rfl (lv_at hl 1 rfl) ?_
      refine lv_if_ne (tgt := 383) hx hb dX5_commandSucceeds_364 (by decide) (fun c_61 => ?_) (fun c_61 => ?_)
      · replace hf := ite_f c_61 hf
        refine lv_iconst (v := (0 : Int32)) hx hb dX5_commandSucceeds_383 (by decide) ?_
        exact eZ X hR hS (by decide) (congrArg Prod.fst (Option.some.inj hf)) (congrArg Prod.snd (Option.some.inj hf)) dX5_commandSucceeds_384
      · replace hf := ite_t c_61 hf
        refine lv_aload_n hx hb dX5_commandSucceeds_367 rfl (lv_at hl 3 rfl) ?_
        refine rg_5_2 X hR iX5_commandSucceeds_5 wX5_commandSucceeds_23 dX5_commandSucceeds_368 ?_
        obtain ⟨r_62, hq_63, hf⟩ := bd1_some hf
        refine kVi (id := (20 * 1)) (As := []) (rest := []) X hR hS (zcX1_countPairs l D cy ad ba O S 1 (by decide) _ hq_63) (cwV 0 X.2.2.2.2.2.1 gX5_commandSucceeds_X1_countPairs rfl rfl rfl kdX1_countPairs ⟨(Nat.le_of_ble_eq_true rfl), (Nat.le_of_ble_eq_true rfl)⟩) (te_idc (by decide)) (teE_circ cy ad O S (by decide)) rfl rfl rfl hl.1 (Nat.le_of_ble_eq_true rfl) ⟨(Nat.le_of_ble_eq_true rfl), (Nat.le_of_ble_eq_true rfl)⟩ dX5_commandSucceeds_371 (fun H locs hR hS => ?_)
        refine lv_iload hx hb dX5_commandSucceeds_374 (lv_at hl 0 rfl) ?_
        refine lv_icmp_ne (tgt := 383) hx hb dX5_commandSucceeds_376 (by decide) (fun c_64 => ?_) (fun c_64 => ?_)
        · replace hf := ite_f c_64 hf
          refine lv_iconst (v := (0 : Int32)) hx hb dX5_commandSucceeds_383 (by decide) ?_
          exact eZ X hR hS (by decide) (congrArg Prod.fst (Option.some.inj hf)) (congrArg Prod.snd (Option.some.inj hf)) dX5_commandSucceeds_384
        · replace hf := ite_t c_64 hf
          refine lv_iconst (v := (1 : Int32)) hx hb dX5_commandSucceeds_379 (by decide) ?_
          refine lv_goto (tgt := 384) hx hb dX5_commandSucceeds_380 (by decide) ?_
          exact eZ X hR hS (by decide) (congrArg Prod.fst (Option.some.inj hf)) (congrArg Prod.snd (Option.some.inj hf)) dX5_commandSucceeds_384
  replace hf := ite_f c_59 hf
  by_cases c_65 : (x1 / (1000 : Int32)) = (9 : Int32)
  · replace hf := ite_t c_65 hf
    refine lv_tableIn (off := 358) (tgt := 385) hx hb dX5_commandSucceeds_27 (by rw [c_65]; decide) (by rw [c_65]; decide) (by rw [c_65]; decide) (by decide) ?_
    refine lv_aload_n hx hb dX5_commandSucceeds_385 rfl (lv_at hl 3 rfl) ?_
    refine rg_5_2 X hR iX5_commandSucceeds_5 wX5_commandSucceeds_23 dX5_commandSucceeds_386 ?_
    refine lv_iload_n hx hb dX5_commandSucceeds_389 rfl (lv_at hl 2 rfl) ?_
    obtain ⟨r_66, hq_67, hf⟩ := bd1_some hf
    refine kVi (id := (20 * 1)) (As := [.int ((x1 / (100 : Int32)) - (x1 / (100 : Int32)) / (10 : Int32) * (10 : Int32))]) (rest := []) X hR hS (zcX1_has l D cy ad ba O S 1 ((x1 / (100 : Int32)) - (x1 / (100 : Int32)) / (10 : Int32) * (10 : Int32)) (by decide) _ hq_67) (cwV 1 X.2.2.2.2.2.1 gX5_commandSucceeds_X1_has rfl rfl rfl kdX1_has ⟨(Nat.le_of_ble_eq_true rfl), (Nat.le_of_ble_eq_true rfl)⟩) (te_idc (by decide)) (teE_circ cy ad O S (by decide)) rfl rfl rfl hl.1 (Nat.le_of_ble_eq_true rfl) ⟨(Nat.le_of_ble_eq_true rfl), (Nat.le_of_ble_eq_true rfl)⟩ dX5_commandSucceeds_390 (fun H locs hR hS => ?_)
    refine lv_if_eq (tgt := 424) hx hb dX5_commandSucceeds_393 (by decide) (fun c_68 => ?_) (fun c_68 => ?_)
    · replace hf := ite_t c_68 hf
      refine lv_iconst (v := (0 : Int32)) hx hb dX5_commandSucceeds_424 (by decide) ?_
      exact eZ X hR hS (by decide) (congrArg Prod.fst (Option.some.inj hf)) (congrArg Prod.snd (Option.some.inj hf)) dX5_commandSucceeds_425
    · replace hf := ite_f c_68 hf
      refine lv_iload_n hx hb dX5_commandSucceeds_396 rfl (lv_at hl 1 rfl) ?_
      refine lv_iconst (v := (4 : Int32)) hx hb dX5_commandSucceeds_397 (by decide) ?_
      refine lv_icmp_ge (tgt := 424) hx hb dX5_commandSucceeds_398 (by decide) (fun c_69 => ?_) (fun c_69 => ?_)
      · replace hf := ite_t c_69 hf
        refine lv_iconst (v := (0 : Int32)) hx hb dX5_commandSucceeds_424 (by decide) ?_
        exact eZ X hR hS (by decide) (congrArg Prod.fst (Option.some.inj hf)) (congrArg Prod.snd (Option.some.inj hf)) dX5_commandSucceeds_425
      · replace hf := ite_f c_69 hf
        refine lv_aload_n hx hb dX5_commandSucceeds_401 rfl (lv_at hl 3 rfl) ?_
        refine rg_5_2 X hR iX5_commandSucceeds_5 wX5_commandSucceeds_23 dX5_commandSucceeds_402 ?_
        refine rg_1_0 X hR (by decide) iX5_commandSucceeds_1 wX5_commandSucceeds_143 dX5_commandSucceeds_405 ?_
        refine lv_iload_n hx hb dX5_commandSucceeds_408 rfl (lv_at hl 2 rfl) ?_
        obtain ⟨h_70, hf⟩ := chk_some hf
        refine ra_mem X hR (by decide) h_70 dX5_commandSucceeds_409 ?_
        refine rg_3_0 X hR (by decide) (tein_lt h_70) iX5_commandSucceeds_3 wX5_commandSucceeds_161 dX5_commandSucceeds_410 ?_
        refine lv_iload_n hx hb dX5_commandSucceeds_413 rfl (lv_at hl 1 rfl) ?_
        obtain ⟨h_71, hf⟩ := chk_some hf
        refine ra_lev X hR (by decide) (tein_lt h_70) h_71 dX5_commandSucceeds_414 ?_
        refine lv_iload hx hb dX5_commandSucceeds_415 (lv_at hl 0 rfl) ?_
        refine lv_icmp_ne (tgt := 424) hx hb dX5_commandSucceeds_417 (by decide) (fun c_72 => ?_) (fun c_72 => ?_)
        · replace hf := ite_f c_72 hf
          refine lv_iconst (v := (0 : Int32)) hx hb dX5_commandSucceeds_424 (by decide) ?_
          exact eZ X hR hS (by decide) (congrArg Prod.fst (Option.some.inj hf)) (congrArg Prod.snd (Option.some.inj hf)) dX5_commandSucceeds_425
        · replace hf := ite_t c_72 hf
          refine lv_iconst (v := (1 : Int32)) hx hb dX5_commandSucceeds_420 (by decide) ?_
          refine lv_goto (tgt := 425) hx hb dX5_commandSucceeds_421 (by decide) ?_
          exact eZ X hR hS (by decide) (congrArg Prod.fst (Option.some.inj hf)) (congrArg Prod.snd (Option.some.inj hf)) dX5_commandSucceeds_425
  replace hf := ite_f c_65 hf
  refine lv_tableOut (tgt := 426) hx hb dX5_commandSucceeds_27 (te_sw (fun k h1 h2 => ?_)) (by decide) ?_
  · have hk : k = 1 ∨ k = 2 ∨ k = 3 ∨ k = 4 ∨ k = 5 ∨ k = 6 ∨ k = 7 ∨ k = 8 ∨ k = 9 := by omega
    rcases hk with rfl | rfl | rfl | rfl | rfl | rfl | rfl | rfl | rfl
    · exact lv_neT c_1 (by decide)
    · exact lv_neT c_15 (by decide)
    · exact lv_neT c_26 (by decide)
    · exact lv_neT c_32 (by decide)
    · exact lv_neT c_38 (by decide)
    · exact lv_neT c_42 (by decide)
    · exact lv_neT c_49 (by decide)
    · exact lv_neT c_59 (by decide)
    · exact lv_neT c_65 (by decide)
  refine lv_iconst (v := (0 : Int32)) hx hb dX5_commandSucceeds_426 (by decide) ?_
  exact eZ X hR hS (by decide) (congrArg Prod.fst (Option.some.inj hf)) (congrArg Prod.snd (Option.some.inj hf)) dX5_commandSucceeds_427
theorem zcX5_commandSucceeds (l : Launch) (D : va_G) (cy : Nat → ClassId) (ad : Nat → Nat) (ba : Nat → Prop) (O : Int64) (S : teS) (x1 : Int32) (r : Int32) (S1 : teS) (hf : fX5_commandSucceeds x1 S = some (r, S1)) : cI l yX5_commandSucceeds wsX5_commandSucceeds rmX5_commandSucceeds D cy ad ba O S [.ref (ad 360), .int x1] r S1 :=
  te_of (by decide) rfl (Nat.le_of_ble_eq_true rfl) (fun p e s m below meth c ls X hR hS hl => bX5_commandSucceeds_0 (res := (r, S1)) (S := S) (x1 := x1) X _ _ _ hR hS hl hf)
abbrev rmX5_runScript : Room := { frames := 7, cells := 1, slots := 6, locals := 161 }
theorem kdX5_runScript : yX5_runScript.cls = RX5 ∧ yX5_runScript.cls ≠ "java/lang/invoke/MethodHandle" ∧ yX5_runScript.cls ≠ "java/lang/invoke/VarHandle" ∧ (parseMethodDescriptor yX5_runScript.desc).map (fun d => d.parameters.length) = some 2 := by decide +kernel
theorem aX5_runScript_105 : ∀ w ∈ (vx_atS RX5 105 "java/lang/IllegalArgumentException" ["java/lang/RuntimeException", "java/lang/Exception"]).filter goodWord, w ∈ wsX5_runScript := by decide +kernel
theorem wX5_runScript_k101 : Cond.classLink RX5 101 "java/lang/IllegalArgumentException" ∈ wsX5_runScript := by decide +kernel
theorem wX5_runScript_n101 : Cond.initialized "java/lang/IllegalArgumentException" ∈ wsX5_runScript := by decide +kernel
theorem wX5_runScript_23 : Cond.fieldLink RX5 23 "TandemExchange" "trial" "LTandemExchange$Circle;" ∈ wsX5_runScript := by decide +kernel
theorem iX5_runScript_5 : ∀ w ∈ wsX50, w ∈ wsX5_runScript := by decide +kernel
theorem wX5_runScript_19 : Cond.fieldLink RX5 19 "TandemExchange" "circle" "LTandemExchange$Circle;" ∈ wsX5_runScript := by decide +kernel
theorem wX5_runScript_238 : Cond.constantLong RX5 238 (10000) ∈ wsX5_runScript := by decide +kernel
set_option maxRecDepth 100000 in
set_option maxHeartbeats 4000000 in
theorem bX5_runScript_46 {p : Program} {l : Launch} {e : Env} {s : State} {m : MethodId} {args : Array Value} {below : List Frame} {meth : Method} {c : Code} {D : va_G} {cy : Nat → ClassId} {ad : Nat → Nat} {ba : Nat → Prop} {O : Int64} {S : teS}  {x1 : Int32} {x2 : Int64} {res : (Nat ⊕ (Int32 × teS))} (X : teC wsX5_runScript RX5 cX5_runScript 6 (some .int) D cy ba p s m args meth c) (hN : ∀ x ∈ c.exceptionTable.toList, False) (hl0 : l.stackTraces = false) : ∀ (n : Nat), ∀ (S1 : teS) (v4 : Int32) (H : Heap) (locs : List Loc) (ls : Array Slot), teR D cy ad ba O S1 H → va_S (teA ba) s.heap H locs → lv_has ls 6 [(0, .ref (ad 360)), (1, .int x1), (2, .long x2), (4, .int v4)] → fX5_runScript_46 x1 x2 n S1 v4 = some res → W p l e (headSpec wsX5_runScript rmX5_runScript).room s m args below meth c H locs 1 6 (vx_MQ below (va_Qi (fun a u => Sum.inr (a, u) = res) (fun u t => teR D cy ad ba O u t.heap) (teA ba)) (teXC D cy ad ba O S (fun c => Sum.inl c = res)) args s 1 6 (teA ba)) (F0 m 46 ls []) := by
  have hx := X.1
  have hb := X.2.1
  have hown := X.2.2.2.2.1
  intro n
  induction n with
  | zero =>
    intro S1 v4 H locs ls hR hS hl hf
    exact nomatch hf
  | succ n ih =>
    intro S1 v4 H locs ls hR hS hl hf
    unfold fX5_runScript_46 at hf
    refine lv_iload hx hb dX5_runScript_46 (lv_at hl 3 rfl) ?_
    refine lv_iload_n hx hb dX5_runScript_48 rfl (lv_at hl 1 rfl) ?_
    refine lv_icmp_ge (tgt := 87) hx hb dX5_runScript_49 (by decide) (fun c_9 => ?_) (fun c_9 => ?_)
    · replace hf := ite_t c_9 hf
      refine lv_sipush (v := (-9999 : Int32)) hx hb dX5_runScript_87 (by decide) ?_
      exact eIx X hR hS (Option.some.inj hf) (Nat.le_of_ble_eq_true rfl) (Nat.le_of_ble_eq_true rfl) dX5_runScript_90
    · replace hf := ite_f c_9 hf
      refine lv_lload_n hx hb dX5_runScript_52 rfl (lv_at hl 2 rfl) ?_
      refine lv_iload_n hx hb dX5_runScript_53 rfl (lv_at hl 1 rfl) ?_
      refine lv_iconst (v := (1 : Int32)) hx hb dX5_runScript_54 (by decide) ?_
      refine lv_isub hx hb dX5_runScript_55 ?_
      refine lv_iload hx hb dX5_runScript_56 (lv_at hl 3 rfl) ?_
      refine lv_isub hx hb dX5_runScript_58 ?_
      obtain ⟨r_10, hq_11, hf⟩ := bd1_some hf
      refine kSl (As := [.long x2, .int ((x1 - (1 : Int32)) - v4)]) (rest := []) X hR hS (zcX5_withoutLowestGroups l D cy ad ba O S1 x2 ((x1 - (1 : Int32)) - v4) _ hq_11) (va_cwS 2 X.2.2.2.2.2.1 gX5_runScript_X5_withoutLowestGroups rfl rfl rfl kdX5_withoutLowestGroups.2 ⟨(Nat.le_of_ble_eq_true rfl), (Nat.le_of_ble_eq_true rfl)⟩)  rfl rfl hl.1 (Nat.le_of_ble_eq_true rfl) ⟨(Nat.le_of_ble_eq_true rfl), (Nat.le_of_ble_eq_true rfl)⟩ dX5_runScript_59 (fun H locs hR hS => ?_)
      refine lv_ldc2 (v := (10000 : Int64)) hx hb hown (X.2.2.2.2.2.1 _ wX5_runScript_238) dX5_runScript_62 ?_
      refine lv_lrem hx hb dX5_runScript_65 (by decide) ?_
      refine lv_l2i hx hb dX5_runScript_66 rfl ?_
      refine lv_istore (lv' := [(5, .int ((r_10 - r_10 / (10000 : Int64) * (10000 : Int64))).toInt32), (0, .ref (ad 360)), (1, .int x1), (2, .long x2), (4, .int v4)]) hx hb dX5_runScript_67 hl (by decide) rfl (fun ls hl => ?_)
      refine lv_aload_n hx hb dX5_runScript_69 rfl (lv_at hl 1 rfl) ?_
      refine lv_iload hx hb dX5_runScript_70 (lv_at hl 0 rfl) ?_
      obtain ⟨r_12, S2, hq_13, hf⟩ := bd2_some hf
      refine kVi (id := 360) (As := [.int ((r_10 - r_10 / (10000 : Int64) * (10000 : Int64))).toInt32]) (rest := []) X hR hS (zcX5_commandSucceeds l D cy ad ba O S1 (((r_10 - r_10 / (10000 : Int64) * (10000 : Int64))).toInt32) _ _ hq_13) (cwV 1 X.2.2.2.2.2.1 gX5_runScript_X5_commandSucceeds rfl rfl rfl kdX5_commandSucceeds ⟨(Nat.le_of_ble_eq_true rfl), (Nat.le_of_ble_eq_true rfl)⟩) (by decide) rfl rfl rfl rfl hl.1 (Nat.le_of_ble_eq_true rfl) ⟨(Nat.le_of_ble_eq_true rfl), (Nat.le_of_ble_eq_true rfl)⟩ dX5_runScript_72 (fun H locs hR hS => ?_)
      refine lv_if_ne (tgt := 81) hx hb dX5_runScript_75 (by decide) (fun c_14 => ?_) (fun c_14 => ?_)
      · replace hf := ite_f c_14 hf
        refine lv_iinc (v := (v4 + (1 : Int32))) (lv' := [(4, .int (v4 + (1 : Int32))), (5, .int ((r_10 - r_10 / (10000 : Int64) * (10000 : Int64))).toInt32), (0, .ref (ad 360)), (1, .int x1), (2, .long x2)]) hx hb dX5_runScript_81 hl (k := 4) rfl rfl (by decide) rfl (fun ls hl => ?_)
        refine lv_goto (tgt := 46) hx hb dX5_runScript_84 (by decide) ?_
        exact ih S2 ((v4 + (1 : Int32))) _ _ _ hR hS (lv_sub hl [2, 3, 4, 0] rfl) hf
      · replace hf := ite_t c_14 hf
        refine lv_iload hx hb dX5_runScript_78 (lv_at hl 4 rfl) ?_
        exact eIx X hR hS (Option.some.inj hf) (Nat.le_of_ble_eq_true rfl) (Nat.le_of_ble_eq_true rfl) dX5_runScript_80
set_option maxRecDepth 100000 in
set_option maxHeartbeats 4000000 in
theorem bX5_runScript_0 {p : Program} {l : Launch} {e : Env} {s : State} {m : MethodId} {args : Array Value} {below : List Frame} {meth : Method} {c : Code} {D : va_G} {cy : Nat → ClassId} {ad : Nat → Nat} {ba : Nat → Prop} {O : Int64} {S : teS}  {x1 : Int32} {x2 : Int64} {res : (Nat ⊕ (Int32 × teS))} (X : teC wsX5_runScript RX5 cX5_runScript 6 (some .int) D cy ba p s m args meth c) (hN : ∀ x ∈ c.exceptionTable.toList, False) (hl0 : l.stackTraces = false) (H : Heap) (locs : List Loc) (ls : Array Slot) (hR : teR D cy ad ba O S H) (hS : va_S (teA ba) s.heap H locs) (hl : lv_has ls 6 [(0, .ref (ad 360)), (1, .int x1), (2, .long x2)]) (hf : fX5_runScript x1 x2 S = some res) : W p l e (headSpec wsX5_runScript rmX5_runScript).room s m args below meth c H locs 0 0 (vx_MQ below (va_Qi (fun a u => Sum.inr (a, u) = res) (fun u t => teR D cy ad ba O u t.heap) (teA ba)) (teXC D cy ad ba O S (fun c => Sum.inl c = res)) args s 1 6 (teA ba)) (F0 m 0 ls []) := by
  have hx := X.1
  have hb := X.2.1
  have hown := X.2.2.2.2.1
  unfold fX5_runScript at hf
  refine lv_iload_n hx hb dX5_runScript_0 rfl (lv_at hl 1 rfl) ?_
  refine lv_iconst (v := (1 : Int32)) hx hb dX5_runScript_1 (by decide) ?_
  refine lv_iconst (v := (4 : Int32)) hx hb dX5_runScript_2 (by decide) ?_
  rcases bx1_some hf with ⟨e_1, hq_2, hf⟩ | ⟨⟨⟩, hq_2, hf⟩
  · exact kSxl (As := [.int x1, .int (1 : Int32), .int (4 : Int32)]) (rest := []) X hN hR hS (zcX5_requireRange l D cy ad ba O S x1 (1 : Int32) (4 : Int32) hl0 _ hq_2) (va_cwS 3 X.2.2.2.2.2.1 gX5_runScript_X5_requireRange rfl rfl rfl kdX5_requireRange.2 ⟨(Nat.le_of_ble_eq_true rfl), (Nat.le_of_ble_eq_true rfl)⟩)  rfl rfl hl.1 (Nat.le_of_ble_eq_true rfl) ⟨(Nat.le_of_ble_eq_true rfl), (Nat.le_of_ble_eq_true rfl)⟩ (Nat.le_of_ble_eq_true rfl) (Nat.le_of_ble_eq_true rfl) dX5_runScript_3 hf.symm
  refine kSxr (As := [.int x1, .int (1 : Int32), .int (4 : Int32)]) (rest := []) X hR hS (znX5_requireRange l D cy ad ba O S x1 (1 : Int32) (4 : Int32) hq_2) (va_cwS 3 X.2.2.2.2.2.1 gX5_runScript_X5_requireRange rfl rfl rfl kdX5_requireRange.2 ⟨(Nat.le_of_ble_eq_true rfl), (Nat.le_of_ble_eq_true rfl)⟩)  rfl rfl hl.1 (Nat.le_of_ble_eq_true rfl) ⟨(Nat.le_of_ble_eq_true rfl), (Nat.le_of_ble_eq_true rfl)⟩ dX5_runScript_3 (fun H locs hR hS => ?_)
  refine lv_lload_n hx hb dX5_runScript_6 rfl (lv_at hl 2 rfl) ?_
  refine lv_lconst (v := (0 : Int64)) hx hb dX5_runScript_7 (by decide) ?_
  refine W.lcmp hx hb dX5_runScript_8 ?_
  refine lv_if_lt (tgt := 22) hx hb dX5_runScript_9 (by decide) (fun c_3 => ?_) (fun c_3 => ?_)
  · replace hf := ite_t c_3 hf
    exact te_thr X hN hl0 hR hS hl.1 rfl (by decide +kernel) wX5_runScript_k101 wX5_runScript_n101 (text := "the script is negative or too long") (c0 := 1) (by decide +kernel) aX5_runScript_105 tx_RX5_101_105_n tx_RX5_101_105_g X.2.2.2.2.2.2.2.2.2.2.1.1 dX5_runScript_22 dX5_runScript_25 dX5_runScript_26 dX5_runScript_28 dX5_runScript_31 (Nat.le_of_ble_eq_true rfl) (Nat.le_of_ble_eq_true rfl) (Nat.le_of_ble_eq_true rfl) (Nat.le_of_ble_eq_true rfl) (Nat.le_of_ble_eq_true rfl) (Nat.le_of_ble_eq_true rfl) rfl (Option.some.inj hf)
  · replace hf := ite_f c_3 hf
    refine lv_lload_n hx hb dX5_runScript_12 rfl (lv_at hl 2 rfl) ?_
    refine lv_iload_n hx hb dX5_runScript_13 rfl (lv_at hl 1 rfl) ?_
    obtain ⟨r_4, hq_5, hf⟩ := bd1_some hf
    refine kSl (As := [.long x2, .int x1]) (rest := []) X hR hS (zcX5_withoutLowestGroups l D cy ad ba O S x2 x1 _ hq_5) (va_cwS 2 X.2.2.2.2.2.1 gX5_runScript_X5_withoutLowestGroups rfl rfl rfl kdX5_withoutLowestGroups.2 ⟨(Nat.le_of_ble_eq_true rfl), (Nat.le_of_ble_eq_true rfl)⟩)  rfl rfl hl.1 (Nat.le_of_ble_eq_true rfl) ⟨(Nat.le_of_ble_eq_true rfl), (Nat.le_of_ble_eq_true rfl)⟩ dX5_runScript_14 (fun H locs hR hS => ?_)
    refine lv_lconst (v := (0 : Int64)) hx hb dX5_runScript_17 (by decide) ?_
    refine W.lcmp hx hb dX5_runScript_18 ?_
    refine lv_if_eq (tgt := 32) hx hb dX5_runScript_19 (by decide) (fun c_6 => ?_) (fun c_6 => ?_)
    · replace hf := ite_t c_6 hf
      refine lv_aload_n hx hb dX5_runScript_32 rfl (lv_at hl 0 rfl) ?_
      refine rg_5_2 X hR iX5_runScript_5 wX5_runScript_23 dX5_runScript_33 ?_
      refine lv_aload_n hx hb dX5_runScript_36 rfl (lv_at hl 0 rfl) ?_
      refine rg_5_1 X hR iX5_runScript_5 wX5_runScript_19 dX5_runScript_37 ?_
      obtain ⟨S1, hq_8, hf⟩ := bd1_some hf
      refine kVv (id := (20 * 1)) (As := [.ref (ad (20 * 0))]) (rest := []) X hR hS (zcX1_copyFrom l D cy ad ba O S 1 0 (by decide) (by decide) _ hq_8) (cwV 1 X.2.2.2.2.2.1 gX5_runScript_X1_copyFrom rfl rfl rfl kdX1_copyFrom ⟨(Nat.le_of_ble_eq_true rfl), (Nat.le_of_ble_eq_true rfl)⟩) (te_idc (by decide)) (teE_circ cy ad O S (by decide)) rfl rfl rfl hl.1 (Nat.le_of_ble_eq_true rfl) ⟨(Nat.le_of_ble_eq_true rfl), (Nat.le_of_ble_eq_true rfl)⟩ dX5_runScript_40 (fun H locs hR hS => ?_)
      refine lv_iconst (v := (0 : Int32)) hx hb dX5_runScript_43 (by decide) ?_
      refine lv_istore (lv' := [(4, .int (0 : Int32)), (0, .ref (ad 360)), (1, .int x1), (2, .long x2)]) hx hb dX5_runScript_44 hl (by decide) rfl (fun ls hl => ?_)
      refine W.widen (k := 1) (n := 6) (Nat.le_of_ble_eq_true rfl) (Nat.le_of_ble_eq_true rfl) ?_
      exact bX5_runScript_46 (S := S) (x1 := x1) (x2 := x2) X hN hl0 2000 S1 ((0 : Int32)) _ _ _ hR hS (lv_sub hl [1, 2, 3, 0] rfl) hf
    · replace hf := ite_f c_6 hf
      exact te_thr X hN hl0 hR hS hl.1 rfl (by decide +kernel) wX5_runScript_k101 wX5_runScript_n101 (text := "the script is negative or too long") (c0 := 1) (by decide +kernel) aX5_runScript_105 tx_RX5_101_105_n tx_RX5_101_105_g X.2.2.2.2.2.2.2.2.2.2.1.1 dX5_runScript_22 dX5_runScript_25 dX5_runScript_26 dX5_runScript_28 dX5_runScript_31 (Nat.le_of_ble_eq_true rfl) (Nat.le_of_ble_eq_true rfl) (Nat.le_of_ble_eq_true rfl) (Nat.le_of_ble_eq_true rfl) (Nat.le_of_ble_eq_true rfl) (Nat.le_of_ble_eq_true rfl) rfl (Option.some.inj hf)
theorem zcX5_runScript (l : Launch) (D : va_G) (cy : Nat → ClassId) (ad : Nat → Nat) (ba : Nat → Prop) (O : Int64) (S : teS) (x1 : Int32) (x2 : Int64) (hl0 : l.stackTraces = false) (res : (Nat ⊕ (Int32 × teS))) (hf : fX5_runScript x1 x2 S = some res) : xQ l yX5_runScript wsX5_runScript rmX5_runScript 1 6 D cy ad ba O S [.ref (ad 360), .int x1, .long x2] res :=
  te_ofx (by decide) rfl (Nat.le_of_ble_eq_true rfl) (fun p e s m below meth c ls X hN hR hS hl => bX5_runScript_0 (S := S) (x1 := x1) (x2 := x2) X hN hl0 _ _ _ hR hS hl hf)
abbrev rmX5_simulate : Room := { frames := 7, cells := 1, slots := 6, locals := 116 }
theorem kdX5_simulate : yX5_simulate.cls = RX5 ∧ yX5_simulate.cls ≠ "java/lang/invoke/MethodHandle" ∧ yX5_simulate.cls ≠ "java/lang/invoke/VarHandle" ∧ (parseMethodDescriptor yX5_simulate.desc).map (fun d => d.parameters.length) = some 2 := by decide +kernel
theorem wX5_simulate_23 : Cond.fieldLink RX5 23 "TandemExchange" "trial" "LTandemExchange$Circle;" ∈ wsX5_simulate := by decide +kernel
theorem iX5_simulate_5 : ∀ w ∈ wsX50, w ∈ wsX5_simulate := by decide +kernel
theorem wX5_simulate_19 : Cond.fieldLink RX5 19 "TandemExchange" "circle" "LTandemExchange$Circle;" ∈ wsX5_simulate := by decide +kernel
theorem wX5_simulate_243 : Cond.constantLong RX5 243 (6364136223846793005) ∈ wsX5_simulate := by decide +kernel
theorem wX5_simulate_245 : Cond.constantLong RX5 245 (1442695040888963407) ∈ wsX5_simulate := by decide +kernel
set_option maxRecDepth 100000 in
set_option maxHeartbeats 4000000 in
theorem bX5_simulate_65 {p : Program} {l : Launch} {e : Env} {s : State} {m : MethodId} {args : Array Value} {below : List Frame} {meth : Method} {c : Code} {D : va_G} {cy : Nat → ClassId} {ad : Nat → Nat} {ba : Nat → Prop} {O : Int64} {S : teS}  {x1 : Int64} {x3 : Int32} {res : (Nat ⊕ (Int32 × teS))} (X : teC wsX5_simulate RX5 cX5_simulate 8 (some .int) D cy ba p s m args meth c) (hN : ∀ x ∈ c.exceptionTable.toList, False) (hl0 : l.stackTraces = false) {q24 : teS → Int64 → Int32 → Option (Nat ⊕ (Int32 × teS))} (hq24 : ∀ (S1 : teS) (v4 : Int64) (v6 : Int32) (H : Heap) (locs : List Loc) (ls : Array Slot), teR D cy ad ba O S1 H → va_S (teA ba) s.heap H locs → lv_has ls 8 [(0, .ref (ad 360)), (3, .int x3), (4, .long v4), (6, .int v6)] → q24 S1 v4 v6 = some res → W p l e (headSpec wsX5_simulate rmX5_simulate).room s m args below meth c H locs 1 6 (vx_MQ below (va_Qi (fun a u => Sum.inr (a, u) = res) (fun u t => teR D cy ad ba O u t.heap) (teA ba)) (teXC D cy ad ba O S (fun c => Sum.inl c = res)) args s 1 6 (teA ba)) (F0 m 24 ls [])) : ∀ (S1 : teS) (v4 : Int64) (v6 : Int32) (v7 : Int32) (H : Heap) (locs : List Loc) (ls : Array Slot), teR D cy ad ba O S1 H → va_S (teA ba) s.heap H locs → lv_has ls 8 [(0, .ref (ad 360)), (3, .int x3), (4, .long v4), (6, .int v6), (7, .int v7)] → fX5_simulate_65 x1 x3 q24 S1 v4 v6 v7 = some res → W p l e (headSpec wsX5_simulate rmX5_simulate).room s m args below meth c H locs 1 6 (vx_MQ below (va_Qi (fun a u => Sum.inr (a, u) = res) (fun u t => teR D cy ad ba O u t.heap) (teA ba)) (teXC D cy ad ba O S (fun c => Sum.inl c = res)) args s 1 6 (teA ba)) (F0 m 65 ls []) := by
  have hx := X.1
  have hb := X.2.1
  have hown := X.2.2.2.2.1
  intro S1 v4 v6 v7 H locs ls hR hS hl hf
  unfold fX5_simulate_65 at hf
  refine lv_aload_n hx hb dX5_simulate_65 rfl (lv_at hl 0 rfl) ?_
  refine rg_5_2 X hR iX5_simulate_5 wX5_simulate_23 dX5_simulate_66 ?_
  refine lv_iload hx hb dX5_simulate_69 (lv_at hl 4 rfl) ?_
  refine lv_iconst (v := (4 : Int32)) hx hb dX5_simulate_71 (by decide) ?_
  refine lv_idiv hx hb dX5_simulate_72 (by decide) ?_
  refine lv_sipush (v := (512 : Int32)) hx hb dX5_simulate_73 (by decide) ?_
  refine lv_irem hx hb dX5_simulate_76 (by decide) ?_
  obtain ⟨S2, hq_12, hf⟩ := bd1_some hf
  refine kVv (id := (20 * 1)) (As := [.int ((v7 / (4 : Int32)) - (v7 / (4 : Int32)) / (512 : Int32) * (512 : Int32))]) (rest := []) X hR hS (zcX1_passWeek l D cy ad ba O S1 1 ((v7 / (4 : Int32)) - (v7 / (4 : Int32)) / (512 : Int32) * (512 : Int32)) (by decide) _ hq_12) (cwV 1 X.2.2.2.2.2.1 gX5_simulate_X1_passWeek rfl rfl rfl kdX1_passWeek ⟨(Nat.le_of_ble_eq_true rfl), (Nat.le_of_ble_eq_true rfl)⟩) (te_idc (by decide)) (teE_circ cy ad O S1 (by decide)) rfl rfl rfl hl.1 (Nat.le_of_ble_eq_true rfl) ⟨(Nat.le_of_ble_eq_true rfl), (Nat.le_of_ble_eq_true rfl)⟩ dX5_simulate_77 (fun H locs hR hS => ?_)
  refine lv_iinc (v := (v6 + (1 : Int32))) (lv' := [(6, .int (v6 + (1 : Int32))), (0, .ref (ad 360)), (3, .int x3), (4, .long v4), (7, .int v7)]) hx hb dX5_simulate_80 hl (k := 3) rfl rfl (by decide) rfl (fun ls hl => ?_)
  refine lv_goto (tgt := 24) hx hb dX5_simulate_83 (by decide) ?_
  exact hq24 S2 (v4) ((v6 + (1 : Int32))) _ _ _ hR hS (lv_sub hl [1, 2, 3, 0] rfl) hf
set_option maxRecDepth 100000 in
set_option maxHeartbeats 4000000 in
theorem bX5_simulate_24 {p : Program} {l : Launch} {e : Env} {s : State} {m : MethodId} {args : Array Value} {below : List Frame} {meth : Method} {c : Code} {D : va_G} {cy : Nat → ClassId} {ad : Nat → Nat} {ba : Nat → Prop} {O : Int64} {S : teS}  {x1 : Int64} {x3 : Int32} {res : (Nat ⊕ (Int32 × teS))} (X : teC wsX5_simulate RX5 cX5_simulate 8 (some .int) D cy ba p s m args meth c) (hN : ∀ x ∈ c.exceptionTable.toList, False) (hl0 : l.stackTraces = false) : ∀ (n : Nat), ∀ (S1 : teS) (v4 : Int64) (v6 : Int32) (H : Heap) (locs : List Loc) (ls : Array Slot), teR D cy ad ba O S1 H → va_S (teA ba) s.heap H locs → lv_has ls 8 [(0, .ref (ad 360)), (3, .int x3), (4, .long v4), (6, .int v6)] → fX5_simulate_24 x1 x3 n S1 v4 v6 = some res → W p l e (headSpec wsX5_simulate rmX5_simulate).room s m args below meth c H locs 1 6 (vx_MQ below (va_Qi (fun a u => Sum.inr (a, u) = res) (fun u t => teR D cy ad ba O u t.heap) (teA ba)) (teXC D cy ad ba O S (fun c => Sum.inl c = res)) args s 1 6 (teA ba)) (F0 m 24 ls []) := by
  have hx := X.1
  have hb := X.2.1
  have hown := X.2.2.2.2.1
  intro n
  induction n with
  | zero =>
    intro S1 v4 v6 H locs ls hR hS hl hf
    exact nomatch hf
  | succ n ih =>
    intro S1 v4 v6 H locs ls hR hS hl hf
    unfold fX5_simulate_24 at hf
    refine lv_iload hx hb dX5_simulate_24 (lv_at hl 3 rfl) ?_
    refine lv_iload_n hx hb dX5_simulate_26 rfl (lv_at hl 1 rfl) ?_
    refine lv_icmp_ge (tgt := 86) hx hb dX5_simulate_27 (by decide) (fun c_5 => ?_) (fun c_5 => ?_)
    · replace hf := ite_t c_5 hf
      refine lv_aload_n hx hb dX5_simulate_86 rfl (lv_at hl 0 rfl) ?_
      refine rg_5_2 X hR iX5_simulate_5 wX5_simulate_23 dX5_simulate_87 ?_
      obtain ⟨r_6, hq_7, hf⟩ := bd1_some hf
      refine kVi (id := (20 * 1)) (As := []) (rest := []) X hR hS (zcX1_sumOfCredits l D cy ad ba O S1 1 (by decide) _ hq_7) (cwV 0 X.2.2.2.2.2.1 gX5_simulate_X1_sumOfCredits rfl rfl rfl kdX1_sumOfCredits ⟨(Nat.le_of_ble_eq_true rfl), (Nat.le_of_ble_eq_true rfl)⟩) (te_idc (by decide)) (teE_circ cy ad O S1 (by decide)) rfl rfl rfl hl.1 (Nat.le_of_ble_eq_true rfl) ⟨(Nat.le_of_ble_eq_true rfl), (Nat.le_of_ble_eq_true rfl)⟩ dX5_simulate_90 (fun H locs hR hS => ?_)
      exact eIx X hR hS (Option.some.inj hf) (Nat.le_of_ble_eq_true rfl) (Nat.le_of_ble_eq_true rfl) dX5_simulate_93
    · replace hf := ite_f c_5 hf
      refine lv_lload hx hb dX5_simulate_30 (lv_at hl 2 rfl) ?_
      refine lv_ldc2 (v := (6364136223846793005 : Int64)) hx hb hown (X.2.2.2.2.2.1 _ wX5_simulate_243) dX5_simulate_32 ?_
      refine lv_lmul hx hb dX5_simulate_35 ?_
      refine lv_ldc2 (v := (1442695040888963407 : Int64)) hx hb hown (X.2.2.2.2.2.1 _ wX5_simulate_245) dX5_simulate_36 ?_
      refine lv_ladd hx hb dX5_simulate_39 ?_
      refine lv_lstore (lv' := [(4, .long ((v4 * (6364136223846793005 : Int64)) + (1442695040888963407 : Int64))), (0, .ref (ad 360)), (3, .int x3), (6, .int v6)]) hx hb dX5_simulate_40 hl (by decide) rfl (fun ls hl => ?_)
      refine lv_lload hx hb dX5_simulate_42 (lv_at hl 0 rfl) ?_
      refine lv_bipush (v := (33 : Int32)) hx hb dX5_simulate_44 (by decide) ?_
      refine lv_lushr hx hb dX5_simulate_46 rfl ?_
      refine lv_l2i hx hb dX5_simulate_47 rfl ?_
      refine lv_istore (lv' := [(7, .int (((((v4 * (6364136223846793005 : Int64)) + (1442695040888963407 : Int64))).toUInt64 >>> (((33 : Int32)).toInt64.toUInt64 &&& Int64.toUInt64 63)).toInt64).toInt32), (4, .long ((v4 * (6364136223846793005 : Int64)) + (1442695040888963407 : Int64))), (0, .ref (ad 360)), (3, .int x3), (6, .int v6)]) hx hb dX5_simulate_48 hl (by decide) rfl (fun ls hl => ?_)
      refine lv_iload hx hb dX5_simulate_50 (lv_at hl 0 rfl) ?_
      refine lv_iconst (v := (4 : Int32)) hx hb dX5_simulate_52 (by decide) ?_
      refine lv_irem hx hb dX5_simulate_53 (by decide) ?_
      refine lv_if_ne (tgt := 65) hx hb dX5_simulate_54 (by decide) (fun c_8 => ?_) (fun c_8 => ?_)
      · replace hf := ite_f c_8 hf
        exact bX5_simulate_65 (S := S) (x1 := x1) (x3 := x3) X hN hl0 ih S1 (((v4 * (6364136223846793005 : Int64)) + (1442695040888963407 : Int64))) (v6) ((((((v4 * (6364136223846793005 : Int64)) + (1442695040888963407 : Int64))).toUInt64 >>> (((33 : Int32)).toInt64.toUInt64 &&& Int64.toUInt64 63)).toInt64).toInt32) _ _ _ hR hS (lv_sub hl [2, 3, 1, 4, 0] rfl) hf
      · replace hf := ite_t c_8 hf
        refine lv_aload_n hx hb dX5_simulate_57 rfl (lv_at hl 2 rfl) ?_
        refine rg_5_2 X hR iX5_simulate_5 wX5_simulate_23 dX5_simulate_58 ?_
        obtain ⟨r_9, S2, hq_10, hf⟩ := bd2_some hf
        refine kVi (id := (20 * 1)) (As := []) (rest := []) X hR hS (zcX1_matchFree l D cy ad ba O S1 1 (by decide) _ _ hq_10) (cwV 0 X.2.2.2.2.2.1 gX5_simulate_X1_matchFree rfl rfl rfl kdX1_matchFree ⟨(Nat.le_of_ble_eq_true rfl), (Nat.le_of_ble_eq_true rfl)⟩) (te_idc (by decide)) (teE_circ cy ad O S1 (by decide)) rfl rfl rfl hl.1 (Nat.le_of_ble_eq_true rfl) ⟨(Nat.le_of_ble_eq_true rfl), (Nat.le_of_ble_eq_true rfl)⟩ dX5_simulate_61 (fun H locs hR hS => ?_)
        refine lv_pop hx hb dX5_simulate_64 rfl ?_
        exact bX5_simulate_65 (S := S) (x1 := x1) (x3 := x3) X hN hl0 ih S2 (((v4 * (6364136223846793005 : Int64)) + (1442695040888963407 : Int64))) (v6) ((((((v4 * (6364136223846793005 : Int64)) + (1442695040888963407 : Int64))).toUInt64 >>> (((33 : Int32)).toInt64.toUInt64 &&& Int64.toUInt64 63)).toInt64).toInt32) _ _ _ hR hS (lv_sub hl [2, 3, 1, 4, 0] rfl) hf
set_option maxRecDepth 100000 in
set_option maxHeartbeats 4000000 in
theorem bX5_simulate_0 {p : Program} {l : Launch} {e : Env} {s : State} {m : MethodId} {args : Array Value} {below : List Frame} {meth : Method} {c : Code} {D : va_G} {cy : Nat → ClassId} {ad : Nat → Nat} {ba : Nat → Prop} {O : Int64} {S : teS}  {x1 : Int64} {x3 : Int32} {res : (Nat ⊕ (Int32 × teS))} (X : teC wsX5_simulate RX5 cX5_simulate 8 (some .int) D cy ba p s m args meth c) (hN : ∀ x ∈ c.exceptionTable.toList, False) (hl0 : l.stackTraces = false) (H : Heap) (locs : List Loc) (ls : Array Slot) (hR : teR D cy ad ba O S H) (hS : va_S (teA ba) s.heap H locs) (hl : lv_has ls 8 [(0, .ref (ad 360)), (1, .long x1), (3, .int x3)]) (hf : fX5_simulate x1 x3 S = some res) : W p l e (headSpec wsX5_simulate rmX5_simulate).room s m args below meth c H locs 0 0 (vx_MQ below (va_Qi (fun a u => Sum.inr (a, u) = res) (fun u t => teR D cy ad ba O u t.heap) (teA ba)) (teXC D cy ad ba O S (fun c => Sum.inl c = res)) args s 1 6 (teA ba)) (F0 m 0 ls []) := by
  have hx := X.1
  have hb := X.2.1
  have hown := X.2.2.2.2.1
  unfold fX5_simulate at hf
  refine lv_iload_n hx hb dX5_simulate_0 rfl (lv_at hl 2 rfl) ?_
  refine lv_iconst (v := (1 : Int32)) hx hb dX5_simulate_1 (by decide) ?_
  refine lv_bipush (v := (60 : Int32)) hx hb dX5_simulate_2 (by decide) ?_
  rcases bx1_some hf with ⟨e_1, hq_2, hf⟩ | ⟨⟨⟩, hq_2, hf⟩
  · exact kSxl (As := [.int x3, .int (1 : Int32), .int (60 : Int32)]) (rest := []) X hN hR hS (zcX5_requireRange l D cy ad ba O S x3 (1 : Int32) (60 : Int32) hl0 _ hq_2) (va_cwS 3 X.2.2.2.2.2.1 gX5_simulate_X5_requireRange rfl rfl rfl kdX5_requireRange.2 ⟨(Nat.le_of_ble_eq_true rfl), (Nat.le_of_ble_eq_true rfl)⟩)  rfl rfl hl.1 (Nat.le_of_ble_eq_true rfl) ⟨(Nat.le_of_ble_eq_true rfl), (Nat.le_of_ble_eq_true rfl)⟩ (Nat.le_of_ble_eq_true rfl) (Nat.le_of_ble_eq_true rfl) dX5_simulate_4 hf.symm
  refine kSxr (As := [.int x3, .int (1 : Int32), .int (60 : Int32)]) (rest := []) X hR hS (znX5_requireRange l D cy ad ba O S x3 (1 : Int32) (60 : Int32) hq_2) (va_cwS 3 X.2.2.2.2.2.1 gX5_simulate_X5_requireRange rfl rfl rfl kdX5_requireRange.2 ⟨(Nat.le_of_ble_eq_true rfl), (Nat.le_of_ble_eq_true rfl)⟩)  rfl rfl hl.1 (Nat.le_of_ble_eq_true rfl) ⟨(Nat.le_of_ble_eq_true rfl), (Nat.le_of_ble_eq_true rfl)⟩ dX5_simulate_4 (fun H locs hR hS => ?_)
  refine lv_aload_n hx hb dX5_simulate_7 rfl (lv_at hl 0 rfl) ?_
  refine rg_5_2 X hR iX5_simulate_5 wX5_simulate_23 dX5_simulate_8 ?_
  refine lv_aload_n hx hb dX5_simulate_11 rfl (lv_at hl 0 rfl) ?_
  refine rg_5_1 X hR iX5_simulate_5 wX5_simulate_19 dX5_simulate_12 ?_
  obtain ⟨S1, hq_4, hf⟩ := bd1_some hf
  refine kVv (id := (20 * 1)) (As := [.ref (ad (20 * 0))]) (rest := []) X hR hS (zcX1_copyFrom l D cy ad ba O S 1 0 (by decide) (by decide) _ hq_4) (cwV 1 X.2.2.2.2.2.1 gX5_simulate_X1_copyFrom rfl rfl rfl kdX1_copyFrom ⟨(Nat.le_of_ble_eq_true rfl), (Nat.le_of_ble_eq_true rfl)⟩) (te_idc (by decide)) (teE_circ cy ad O S (by decide)) rfl rfl rfl hl.1 (Nat.le_of_ble_eq_true rfl) ⟨(Nat.le_of_ble_eq_true rfl), (Nat.le_of_ble_eq_true rfl)⟩ dX5_simulate_15 (fun H locs hR hS => ?_)
  refine lv_lload_n hx hb dX5_simulate_18 rfl (lv_at hl 1 rfl) ?_
  refine lv_lstore (lv' := [(4, .long x1), (0, .ref (ad 360)), (1, .long x1), (3, .int x3)]) hx hb dX5_simulate_19 hl (by decide) rfl (fun ls hl => ?_)
  refine lv_iconst (v := (0 : Int32)) hx hb dX5_simulate_21 (by decide) ?_
  refine lv_istore (lv' := [(6, .int (0 : Int32)), (4, .long x1), (0, .ref (ad 360)), (1, .long x1), (3, .int x3)]) hx hb dX5_simulate_22 hl (by decide) rfl (fun ls hl => ?_)
  refine W.widen (k := 1) (n := 6) (Nat.le_of_ble_eq_true rfl) (Nat.le_of_ble_eq_true rfl) ?_
  exact bX5_simulate_24 (S := S) (x1 := x1) (x3 := x3) X hN hl0 2000 S1 (x1) ((0 : Int32)) _ _ _ hR hS (lv_sub hl [2, 4, 1, 0] rfl) hf
theorem zcX5_simulate (l : Launch) (D : va_G) (cy : Nat → ClassId) (ad : Nat → Nat) (ba : Nat → Prop) (O : Int64) (S : teS) (x1 : Int64) (x3 : Int32) (hl0 : l.stackTraces = false) (res : (Nat ⊕ (Int32 × teS))) (hf : fX5_simulate x1 x3 S = some res) : xQ l yX5_simulate wsX5_simulate rmX5_simulate 1 6 D cy ad ba O S [.ref (ad 360), .long x1, .int x3] res :=
  te_ofx (by decide) rfl (Nat.le_of_ble_eq_true rfl) (fun p e s m below meth c ls X hN hR hS hl => bX5_simulate_0 (S := S) (x1 := x1) (x3 := x3) X hN hl0 _ _ _ hR hS hl hf)
abbrev rmX5_requireSlot : Room := { frames := 6, cells := 1, slots := 6, locals := 90 }
theorem kdX5_requireSlot : yX5_requireSlot.cls = RX5 ∧ yX5_requireSlot.cls ≠ "java/lang/invoke/MethodHandle" ∧ yX5_requireSlot.cls ≠ "java/lang/invoke/VarHandle" ∧ (parseMethodDescriptor yX5_requireSlot.desc).map (fun d => d.parameters.length) = some 1 := by decide +kernel
theorem aX5_requireSlot_259 : ∀ w ∈ (vx_atS RX5 259 "java/lang/IndexOutOfBoundsException" ["java/lang/RuntimeException", "java/lang/Exception"]).filter goodWord, w ∈ wsX5_requireSlot := fun _ h => List.mem_cons_of_mem _ (List.mem_append_right _ h)
theorem wX5_requireSlot_k255 : Cond.classLink RX5 255 "java/lang/IndexOutOfBoundsException" ∈ wsX5_requireSlot := by decide +kernel
theorem wX5_requireSlot_n255 : Cond.initialized "java/lang/IndexOutOfBoundsException" ∈ wsX5_requireSlot := by decide +kernel
set_option maxRecDepth 100000 in
set_option maxHeartbeats 4000000 in
theorem bX5_requireSlot_0 {p : Program} {l : Launch} {e : Env} {s : State} {m : MethodId} {args : Array Value} {below : List Frame} {meth : Method} {c : Code} {D : va_G} {cy : Nat → ClassId} {ad : Nat → Nat} {ba : Nat → Prop} {O : Int64} {S : teS}  {x0 : Int32} {res : (Nat ⊕ Unit)} (X : teC wsX5_requireSlot RX5 cX5_requireSlot 1 none D cy ba p s m args meth c) (hN : ∀ x ∈ c.exceptionTable.toList, False) (hl0 : l.stackTraces = false) (H : Heap) (locs : List Loc) (ls : Array Slot) (hR : teR D cy ad ba O S H) (hS : va_S (teA ba) s.heap H locs) (hl : lv_has ls 1 [(0, .int x0)]) (hf : fX5_requireSlot x0 S = some res) : W p l e (headSpec wsX5_requireSlot rmX5_requireSlot).room s m args below meth c H locs 0 0 (vx_MQ below (va_Qv (fun u => Sum.inr () = res ∧ u = S) (fun u t => teR D cy ad ba O u t.heap) (teA ba)) (teXC D cy ad ba O S (fun c => Sum.inl c = res)) args s 1 6 (teA ba)) (F0 m 0 ls []) := by
  have hx := X.1
  have hb := X.2.1
  have hown := X.2.2.2.2.1
  unfold fX5_requireSlot at hf
  refine lv_iload_n hx hb dX5_requireSlot_0 rfl (lv_at hl 0 rfl) ?_
  refine lv_if_lt (tgt := 9) hx hb dX5_requireSlot_1 (by decide) (fun c_1 => ?_) (fun c_1 => ?_)
  · replace hf := ite_t c_1 hf
    exact te_thrW X hN hl0 hR hS hl.1 rfl (by decide +kernel) wX5_requireSlot_k255 wX5_requireSlot_n255 (text := "there is no such save slot") (c0 := 3) (by decide +kernel) aX5_requireSlot_259 tx_RX5_255_259_n tx_RX5_255_259_g X.2.2.2.2.2.2.2.2.2.2.1.2.2.1 dX5_requireSlot_9 dX5_requireSlot_12 dX5_requireSlot_13 dX5_requireSlot_16 dX5_requireSlot_19 (Nat.le_of_ble_eq_true rfl) (Nat.le_of_ble_eq_true rfl) (Nat.le_of_ble_eq_true rfl) (Nat.le_of_ble_eq_true rfl) (Nat.le_of_ble_eq_true rfl) (Nat.le_of_ble_eq_true rfl) rfl (Option.some.inj hf)
  · replace hf := ite_f c_1 hf
    refine lv_iload_n hx hb dX5_requireSlot_4 rfl (lv_at hl 0 rfl) ?_
    refine lv_iconst (v := (2 : Int32)) hx hb dX5_requireSlot_5 (by decide) ?_
    refine lv_icmp_lt (tgt := 20) hx hb dX5_requireSlot_6 (by decide) (fun c_2 => ?_) (fun c_2 => ?_)
    · replace hf := ite_t c_2 hf
      exact eVx X hR hS ⟨Option.some.inj hf, rfl⟩ (Nat.le_of_ble_eq_true rfl) (Nat.le_of_ble_eq_true rfl) dX5_requireSlot_20
    · replace hf := ite_f c_2 hf
      exact te_thrW X hN hl0 hR hS hl.1 rfl (by decide +kernel) wX5_requireSlot_k255 wX5_requireSlot_n255 (text := "there is no such save slot") (c0 := 3) (by decide +kernel) aX5_requireSlot_259 tx_RX5_255_259_n tx_RX5_255_259_g X.2.2.2.2.2.2.2.2.2.2.1.2.2.1 dX5_requireSlot_9 dX5_requireSlot_12 dX5_requireSlot_13 dX5_requireSlot_16 dX5_requireSlot_19 (Nat.le_of_ble_eq_true rfl) (Nat.le_of_ble_eq_true rfl) (Nat.le_of_ble_eq_true rfl) (Nat.le_of_ble_eq_true rfl) (Nat.le_of_ble_eq_true rfl) (Nat.le_of_ble_eq_true rfl) rfl (Option.some.inj hf)
theorem zcX5_requireSlot (l : Launch) (D : va_G) (cy : Nat → ClassId) (ad : Nat → Nat) (ba : Nat → Prop) (O : Int64) (S : teS) (x0 : Int32) (hl0 : l.stackTraces = false) (res : (Nat ⊕ Unit)) (hf : fX5_requireSlot x0 S = some res) : xP l yX5_requireSlot wsX5_requireSlot rmX5_requireSlot 1 6 D cy ad ba O S [.int x0] res :=
  te_ofx (by decide) rfl (Nat.le_of_ble_eq_true rfl) (fun p e s m below meth c ls X hN hR hS hl => bX5_requireSlot_0 (S := S) (x0 := x0) X hN hl0 _ _ _ hR hS hl hf)
abbrev rnX5_requireSlot : Room := { frames := 0, cells := 0, slots := 0, locals := 0 }
set_option maxRecDepth 100000 in
set_option maxHeartbeats 4000000 in
theorem bnX5_requireSlot_0 {p : Program} {l : Launch} {e : Env} {s : State} {m : MethodId} {args : Array Value} {below : List Frame} {meth : Method} {c : Code} {D : va_G} {cy : Nat → ClassId} {ad : Nat → Nat} {ba : Nat → Prop} {O : Int64} {S : teS} {x0 : Int32} (X : teC wsX5_requireSlot RX5 cX5_requireSlot 1 none D cy ba p s m args meth c) (hN : ∀ x ∈ c.exceptionTable.toList, False) (H : Heap) (locs : List Loc) (ls : Array Slot) (hR : teR D cy ad ba O S H) (hS : va_S (teA ba) s.heap H locs) (hl : lv_has ls 1 [(0, .int x0)]) (hf : fX5_requireSlot x0 S = some (.inr ())) : W p l e (headSpec wsX5_requireSlot rnX5_requireSlot).room s m args below meth c H locs 0 0 (vx_MQ below (va_Qv (fun u => Sum.inr () = (Sum.inr () : Nat ⊕ Unit) ∧ u = S) (fun u t => teR D cy ad ba O u t.heap) (teA ba)) (teXC D cy ad ba O S (fun c => Sum.inl c = (Sum.inr () : Nat ⊕ Unit))) args s 0 0 (teA ba)) (F0 m 0 ls []) := by
  have hx := X.1
  have hb := X.2.1
  have hown := X.2.2.2.2.1
  unfold fX5_requireSlot at hf
  refine lv_iload_n hx hb dX5_requireSlot_0 rfl (lv_at hl 0 rfl) ?_
  refine lv_if_lt (tgt := 9) hx hb dX5_requireSlot_1 (by decide) (fun c_1 => ?_) (fun c_1 => ?_)
  · replace hf := ite_t c_1 hf
    exact nomatch (Option.some.inj hf)
  · replace hf := ite_f c_1 hf
    refine lv_iload_n hx hb dX5_requireSlot_4 rfl (lv_at hl 0 rfl) ?_
    refine lv_iconst (v := (2 : Int32)) hx hb dX5_requireSlot_5 (by decide) ?_
    refine lv_icmp_lt (tgt := 20) hx hb dX5_requireSlot_6 (by decide) (fun c_2 => ?_) (fun c_2 => ?_)
    · replace hf := ite_t c_2 hf
      exact eVx X hR hS ⟨Option.some.inj hf, rfl⟩ (Nat.le_of_ble_eq_true rfl) (Nat.le_of_ble_eq_true rfl) dX5_requireSlot_20
    · replace hf := ite_f c_2 hf
      exact nomatch (Option.some.inj hf)
theorem znX5_requireSlot (l : Launch) (D : va_G) (cy : Nat → ClassId) (ad : Nat → Nat) (ba : Nat → Prop) (O : Int64) (S : teS) (x0 : Int32) (hf : fX5_requireSlot x0 S = some (.inr ())) : xP l yX5_requireSlot wsX5_requireSlot rnX5_requireSlot 0 0 D cy ad ba O S [.int x0] (.inr ()) :=
  te_ofx (by decide) rfl (Nat.le_of_ble_eq_true rfl) (fun p e s m below meth c ls X hN hR hS hl => bnX5_requireSlot_0 (S := S) (x0 := x0) X hN _ _ _ hR hS hl hf)
abbrev rmX5_save : Room := { frames := 7, cells := 1, slots := 6, locals := 110 }
theorem kdX5_save : yX5_save.cls = RX5 ∧ yX5_save.cls ≠ "java/lang/invoke/MethodHandle" ∧ yX5_save.cls ≠ "java/lang/invoke/VarHandle" ∧ (parseMethodDescriptor yX5_save.desc).map (fun d => d.parameters.length) = some 1 := by decide +kernel
theorem wX5_save_33 : Cond.fieldLink RX5 33 "TandemExchange" "slots" "[LTandemExchange$Circle;" ∈ wsX5_save := by decide +kernel
theorem iX5_save_5 : ∀ w ∈ wsX50, w ∈ wsX5_save := by decide +kernel
theorem wX5_save_19 : Cond.fieldLink RX5 19 "TandemExchange" "circle" "LTandemExchange$Circle;" ∈ wsX5_save := by decide +kernel
theorem wX5_save_37 : Cond.fieldLink RX5 37 "TandemExchange" "saved" "[Z" ∈ wsX5_save := by decide +kernel
theorem wX5_save_86 : Cond.fieldLink RX5 86 "TandemExchange$Circle" "weeks" "I" ∈ wsX5_save := by decide +kernel
theorem iX5_save_1 : ∀ w ∈ wsX10, w ∈ wsX5_save := by decide +kernel
set_option maxRecDepth 100000 in
set_option maxHeartbeats 4000000 in
theorem bX5_save_0 {p : Program} {l : Launch} {e : Env} {s : State} {m : MethodId} {args : Array Value} {below : List Frame} {meth : Method} {c : Code} {D : va_G} {cy : Nat → ClassId} {ad : Nat → Nat} {ba : Nat → Prop} {O : Int64} {S : teS}  {x1 : Int32} {res : (Nat ⊕ (Int32 × teS))} (X : teC wsX5_save RX5 cX5_save 2 (some .int) D cy ba p s m args meth c) (hN : ∀ x ∈ c.exceptionTable.toList, False) (hl0 : l.stackTraces = false) (H : Heap) (locs : List Loc) (ls : Array Slot) (hR : teR D cy ad ba O S H) (hS : va_S (teA ba) s.heap H locs) (hl : lv_has ls 2 [(0, .ref (ad 360)), (1, .int x1)]) (hf : fX5_save x1 S = some res) : W p l e (headSpec wsX5_save rmX5_save).room s m args below meth c H locs 0 0 (vx_MQ below (va_Qi (fun a u => Sum.inr (a, u) = res) (fun u t => teR D cy ad ba O u t.heap) (teA ba)) (teXC D cy ad ba O S (fun c => Sum.inl c = res)) args s 1 6 (teA ba)) (F0 m 0 ls []) := by
  have hx := X.1
  have hb := X.2.1
  have hown := X.2.2.2.2.1
  unfold fX5_save at hf
  refine lv_iload_n hx hb dX5_save_0 rfl (lv_at hl 1 rfl) ?_
  rcases bx1_some hf with ⟨e_1, hq_2, hf⟩ | ⟨⟨⟩, hq_2, hf⟩
  · exact kSxl (As := [.int x1]) (rest := []) X hN hR hS (zcX5_requireSlot l D cy ad ba O S x1 hl0 _ hq_2) (va_cwS 1 X.2.2.2.2.2.1 gX5_save_X5_requireSlot rfl rfl rfl kdX5_requireSlot.2 ⟨(Nat.le_of_ble_eq_true rfl), (Nat.le_of_ble_eq_true rfl)⟩)  rfl rfl hl.1 (Nat.le_of_ble_eq_true rfl) ⟨(Nat.le_of_ble_eq_true rfl), (Nat.le_of_ble_eq_true rfl)⟩ (Nat.le_of_ble_eq_true rfl) (Nat.le_of_ble_eq_true rfl) dX5_save_1 hf.symm
  refine kSxr (As := [.int x1]) (rest := []) X hR hS (znX5_requireSlot l D cy ad ba O S x1 hq_2) (va_cwS 1 X.2.2.2.2.2.1 gX5_save_X5_requireSlot rfl rfl rfl kdX5_requireSlot.2 ⟨(Nat.le_of_ble_eq_true rfl), (Nat.le_of_ble_eq_true rfl)⟩)  rfl rfl hl.1 (Nat.le_of_ble_eq_true rfl) ⟨(Nat.le_of_ble_eq_true rfl), (Nat.le_of_ble_eq_true rfl)⟩ dX5_save_1 (fun H locs hR hS => ?_)
  refine lv_aload_n hx hb dX5_save_4 rfl (lv_at hl 0 rfl) ?_
  refine rg_5_4 X hR iX5_save_5 wX5_save_33 dX5_save_5 ?_
  refine lv_iload_n hx hb dX5_save_8 rfl (lv_at hl 1 rfl) ?_
  obtain ⟨h_3, hf⟩ := chk_some hf
  refine ra_slo X hR h_3 dX5_save_9 ?_
  refine lv_aload_n hx hb dX5_save_10 rfl (lv_at hl 0 rfl) ?_
  refine rg_5_1 X hR iX5_save_5 wX5_save_19 dX5_save_11 ?_
  obtain ⟨S1, hq_5, hf⟩ := bd1_some hf
  refine kVv (id := (20 * (16 + x1.toNatClampNeg))) (As := [.ref (ad (20 * 0))]) (rest := []) X hR hS (zcX1_copyFrom l D cy ad ba O S (16 + x1.toNatClampNeg) 0 (by have := tein_lt h_3; omega) (by decide) _ hq_5) (cwV 1 X.2.2.2.2.2.1 gX5_save_X1_copyFrom rfl rfl rfl kdX1_copyFrom ⟨(Nat.le_of_ble_eq_true rfl), (Nat.le_of_ble_eq_true rfl)⟩) (te_idc (by have := tein_lt h_3; omega)) (teE_circ cy ad O S (by have := tein_lt h_3; omega)) rfl rfl rfl hl.1 (Nat.le_of_ble_eq_true rfl) ⟨(Nat.le_of_ble_eq_true rfl), (Nat.le_of_ble_eq_true rfl)⟩ dX5_save_14 (fun H locs hR hS => ?_)
  refine lv_aload_n hx hb dX5_save_17 rfl (lv_at hl 0 rfl) ?_
  refine rg_5_5 X hR iX5_save_5 wX5_save_37 dX5_save_18 ?_
  refine lv_iload_n hx hb dX5_save_21 rfl (lv_at hl 1 rfl) ?_
  refine lv_iconst (v := (1 : Int32)) hx hb dX5_save_22 (by decide) ?_
  refine rs_z366 X hR hS h_3 dX5_save_23 (fun H locs hR hS => ?_)
  generalize teu S1 366 x1.toNatClampNeg (vp_nar .boolean (1 : Int32)) = S2 at hf hR
  replace hf := lt1_e hf
  refine lv_aload_n hx hb dX5_save_24 rfl (lv_at hl 0 rfl) ?_
  refine rg_5_1 X hR iX5_save_5 wX5_save_19 dX5_save_25 ?_
  refine rg_1_2 X hR (by decide) iX5_save_1 wX5_save_86 dX5_save_28 ?_
  exact eIx X hR hS (Option.some.inj hf) (Nat.le_of_ble_eq_true rfl) (Nat.le_of_ble_eq_true rfl) dX5_save_31
theorem zcX5_save (l : Launch) (D : va_G) (cy : Nat → ClassId) (ad : Nat → Nat) (ba : Nat → Prop) (O : Int64) (S : teS) (x1 : Int32) (hl0 : l.stackTraces = false) (res : (Nat ⊕ (Int32 × teS))) (hf : fX5_save x1 S = some res) : xQ l yX5_save wsX5_save rmX5_save 1 6 D cy ad ba O S [.ref (ad 360), .int x1] res :=
  te_ofx (by decide) rfl (Nat.le_of_ble_eq_true rfl) (fun p e s m below meth c ls X hN hR hS hl => bX5_save_0 (S := S) (x1 := x1) X hN hl0 _ _ _ hR hS hl hf)
abbrev rmX5_restore : Room := { frames := 7, cells := 1, slots := 6, locals := 110 }
theorem kdX5_restore : yX5_restore.cls = RX5 ∧ yX5_restore.cls ≠ "java/lang/invoke/MethodHandle" ∧ yX5_restore.cls ≠ "java/lang/invoke/VarHandle" ∧ (parseMethodDescriptor yX5_restore.desc).map (fun d => d.parameters.length) = some 1 := by decide +kernel
theorem wX5_restore_37 : Cond.fieldLink RX5 37 "TandemExchange" "saved" "[Z" ∈ wsX5_restore := by decide +kernel
theorem iX5_restore_5 : ∀ w ∈ wsX50, w ∈ wsX5_restore := by decide +kernel
theorem wX5_restore_19 : Cond.fieldLink RX5 19 "TandemExchange" "circle" "LTandemExchange$Circle;" ∈ wsX5_restore := by decide +kernel
theorem wX5_restore_33 : Cond.fieldLink RX5 33 "TandemExchange" "slots" "[LTandemExchange$Circle;" ∈ wsX5_restore := by decide +kernel
theorem wX5_restore_29 : Cond.fieldLink RX5 29 "TandemExchange" "history" "LTandemExchange$History;" ∈ wsX5_restore := by decide +kernel
theorem wX5_restore_86 : Cond.fieldLink RX5 86 "TandemExchange$Circle" "weeks" "I" ∈ wsX5_restore := by decide +kernel
theorem iX5_restore_1 : ∀ w ∈ wsX10, w ∈ wsX5_restore := by decide +kernel
theorem aX5_restore_60 : ∀ w ∈ (vx_atS RX5 60 "java/lang/IllegalStateException" ["java/lang/RuntimeException", "java/lang/Exception"]).filter goodWord, w ∈ wsX5_restore := by decide +kernel
theorem wX5_restore_k56 : Cond.classLink RX5 56 "java/lang/IllegalStateException" ∈ wsX5_restore := by decide +kernel
theorem wX5_restore_n56 : Cond.initialized "java/lang/IllegalStateException" ∈ wsX5_restore := by decide +kernel
set_option maxRecDepth 100000 in
set_option maxHeartbeats 4000000 in
theorem bX5_restore_0 {p : Program} {l : Launch} {e : Env} {s : State} {m : MethodId} {args : Array Value} {below : List Frame} {meth : Method} {c : Code} {D : va_G} {cy : Nat → ClassId} {ad : Nat → Nat} {ba : Nat → Prop} {O : Int64} {S : teS}  {x1 : Int32} {res : (Nat ⊕ (Int32 × teS))} (X : teC wsX5_restore RX5 cX5_restore 2 (some .int) D cy ba p s m args meth c) (hN : ∀ x ∈ c.exceptionTable.toList, False) (hl0 : l.stackTraces = false) (H : Heap) (locs : List Loc) (ls : Array Slot) (hR : teR D cy ad ba O S H) (hS : va_S (teA ba) s.heap H locs) (hl : lv_has ls 2 [(0, .ref (ad 360)), (1, .int x1)]) (hf : fX5_restore x1 S = some res) : W p l e (headSpec wsX5_restore rmX5_restore).room s m args below meth c H locs 0 0 (vx_MQ below (va_Qi (fun a u => Sum.inr (a, u) = res) (fun u t => teR D cy ad ba O u t.heap) (teA ba)) (teXC D cy ad ba O S (fun c => Sum.inl c = res)) args s 1 6 (teA ba)) (F0 m 0 ls []) := by
  have hx := X.1
  have hb := X.2.1
  have hown := X.2.2.2.2.1
  unfold fX5_restore at hf
  refine lv_iload_n hx hb dX5_restore_0 rfl (lv_at hl 1 rfl) ?_
  rcases bx1_some hf with ⟨e_1, hq_2, hf⟩ | ⟨⟨⟩, hq_2, hf⟩
  · exact kSxl (As := [.int x1]) (rest := []) X hN hR hS (zcX5_requireSlot l D cy ad ba O S x1 hl0 _ hq_2) (va_cwS 1 X.2.2.2.2.2.1 gX5_restore_X5_requireSlot rfl rfl rfl kdX5_requireSlot.2 ⟨(Nat.le_of_ble_eq_true rfl), (Nat.le_of_ble_eq_true rfl)⟩)  rfl rfl hl.1 (Nat.le_of_ble_eq_true rfl) ⟨(Nat.le_of_ble_eq_true rfl), (Nat.le_of_ble_eq_true rfl)⟩ (Nat.le_of_ble_eq_true rfl) (Nat.le_of_ble_eq_true rfl) dX5_restore_1 hf.symm
  refine kSxr (As := [.int x1]) (rest := []) X hR hS (znX5_requireSlot l D cy ad ba O S x1 hq_2) (va_cwS 1 X.2.2.2.2.2.1 gX5_restore_X5_requireSlot rfl rfl rfl kdX5_requireSlot.2 ⟨(Nat.le_of_ble_eq_true rfl), (Nat.le_of_ble_eq_true rfl)⟩)  rfl rfl hl.1 (Nat.le_of_ble_eq_true rfl) ⟨(Nat.le_of_ble_eq_true rfl), (Nat.le_of_ble_eq_true rfl)⟩ dX5_restore_1 (fun H locs hR hS => ?_)
  refine lv_aload_n hx hb dX5_restore_4 rfl (lv_at hl 0 rfl) ?_
  refine rg_5_5 X hR iX5_restore_5 wX5_restore_37 dX5_restore_5 ?_
  refine lv_iload_n hx hb dX5_restore_8 rfl (lv_at hl 1 rfl) ?_
  obtain ⟨h_3, hf⟩ := chk_some hf
  refine ra_z366 X hR h_3 dX5_restore_9 ?_
  refine lv_if_ne (tgt := 23) hx hb dX5_restore_10 (by decide) (fun c_4 => ?_) (fun c_4 => ?_)
  · replace hf := ite_f c_4 hf
    refine lv_aload_n hx hb dX5_restore_23 rfl (lv_at hl 0 rfl) ?_
    refine rg_5_1 X hR iX5_restore_5 wX5_restore_19 dX5_restore_24 ?_
    refine lv_aload_n hx hb dX5_restore_27 rfl (lv_at hl 0 rfl) ?_
    refine rg_5_4 X hR iX5_restore_5 wX5_restore_33 dX5_restore_28 ?_
    refine lv_iload_n hx hb dX5_restore_31 rfl (lv_at hl 1 rfl) ?_
    refine ra_slo X hR h_3 dX5_restore_32 ?_
    obtain ⟨S1, hq_6, hf⟩ := bd1_some hf
    refine kVv (id := (20 * 0)) (As := [.ref (ad (20 * (16 + x1.toNatClampNeg)))]) (rest := []) X hR hS (zcX1_copyFrom l D cy ad ba O S 0 (16 + x1.toNatClampNeg) (by decide) (by have := tein_lt h_3; omega) _ hq_6) (cwV 1 X.2.2.2.2.2.1 gX5_restore_X1_copyFrom rfl rfl rfl kdX1_copyFrom ⟨(Nat.le_of_ble_eq_true rfl), (Nat.le_of_ble_eq_true rfl)⟩) (te_idc (by decide)) (teE_circ cy ad O S (by decide)) rfl rfl rfl hl.1 (Nat.le_of_ble_eq_true rfl) ⟨(Nat.le_of_ble_eq_true rfl), (Nat.le_of_ble_eq_true rfl)⟩ dX5_restore_33 (fun H locs hR hS => ?_)
    refine lv_aload_n hx hb dX5_restore_36 rfl (lv_at hl 0 rfl) ?_
    refine rg_5_3 X hR iX5_restore_5 wX5_restore_29 dX5_restore_37 ?_
    obtain ⟨S2, hq_8, hf⟩ := bd1_some hf
    refine kVv (id := 363) (As := []) (rest := []) X hR hS (zcX2_forget l D cy ad ba O S1 _ hq_8) (cwV 0 X.2.2.2.2.2.1 gX5_restore_X2_forget rfl rfl rfl kdX2_forget ⟨(Nat.le_of_ble_eq_true rfl), (Nat.le_of_ble_eq_true rfl)⟩) (by decide) rfl rfl rfl rfl hl.1 (Nat.le_of_ble_eq_true rfl) ⟨(Nat.le_of_ble_eq_true rfl), (Nat.le_of_ble_eq_true rfl)⟩ dX5_restore_40 (fun H locs hR hS => ?_)
    refine lv_aload_n hx hb dX5_restore_43 rfl (lv_at hl 0 rfl) ?_
    refine rg_5_1 X hR iX5_restore_5 wX5_restore_19 dX5_restore_44 ?_
    refine rg_1_2 X hR (by decide) iX5_restore_1 wX5_restore_86 dX5_restore_47 ?_
    exact eIx X hR hS (Option.some.inj hf) (Nat.le_of_ble_eq_true rfl) (Nat.le_of_ble_eq_true rfl) dX5_restore_50
  · replace hf := ite_t c_4 hf
    exact te_thr X hN hl0 hR hS hl.1 rfl (by decide +kernel) wX5_restore_k56 wX5_restore_n56 (text := "nothing has been saved in the slot") (c0 := 2) (by decide +kernel) aX5_restore_60 tx_RX5_56_60_n tx_RX5_56_60_g X.2.2.2.2.2.2.2.2.2.2.1.2.1 dX5_restore_13 dX5_restore_16 dX5_restore_17 dX5_restore_19 dX5_restore_22 (Nat.le_of_ble_eq_true rfl) (Nat.le_of_ble_eq_true rfl) (Nat.le_of_ble_eq_true rfl) (Nat.le_of_ble_eq_true rfl) (Nat.le_of_ble_eq_true rfl) (Nat.le_of_ble_eq_true rfl) rfl (Option.some.inj hf)
theorem zcX5_restore (l : Launch) (D : va_G) (cy : Nat → ClassId) (ad : Nat → Nat) (ba : Nat → Prop) (O : Int64) (S : teS) (x1 : Int32) (hl0 : l.stackTraces = false) (res : (Nat ⊕ (Int32 × teS))) (hf : fX5_restore x1 S = some res) : xQ l yX5_restore wsX5_restore rmX5_restore 1 6 D cy ad ba O S [.ref (ad 360), .int x1] res :=
  te_ofx (by decide) rfl (Nat.le_of_ble_eq_true rfl) (fun p e s m below meth c ls X hN hR hS hl => bX5_restore_0 (S := S) (x1 := x1) X hN hl0 _ _ _ hR hS hl hf)
