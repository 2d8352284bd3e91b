abbrev rmX1_lead : Room := { frames := 0, cells := 0, slots := 0, locals := 0 }
theorem kdX1_lead : yX1_lead.cls = RX1 ∧ yX1_lead.cls ≠ "java/lang/invoke/MethodHandle" ∧ yX1_lead.cls ≠ "java/lang/invoke/VarHandle" ∧ (parseMethodDescriptor yX1_lead.desc).map (fun d => d.parameters.length) = some 2 := by decide +kernel
theorem wX1_lead_11 : Cond.fieldLink RX1 11 "TandemExchange$Circle" "members" "[LTandemExchange$Member;" ∈ wsX1_lead := by decide +kernel
theorem iX1_lead_1 : ∀ w ∈ wsX10, w ∈ wsX1_lead := fun _ h => List.mem_cons_of_mem _ (List.mem_append_left _ (List.mem_append_right _ h))
theorem wX1_lead_40 : Cond.fieldLink RX1 40 "TandemExchange$Member" "wants" "I" ∈ wsX1_lead := by decide +kernel
theorem iX1_lead_3 : ∀ w ∈ wsX30, w ∈ wsX1_lead := fun _ h => List.mem_cons_of_mem _ (List.mem_append_right _ h)
theorem wX1_lead_36 : Cond.fieldLink RX1 36 "TandemExchange$Member" "levels" "[I" ∈ wsX1_lead := by decide +kernel
set_option maxRecDepth 100000 in
set_option maxHeartbeats 4000000 in
theorem bX1_lead_0 {p : Program} {l : Launch} {e : Env} {s : State} {m : MethodId} {args : Array Value} {below : List Frame} {meth : Method} {c : Code} {D : va_G} {cy : Nat → ClassId} {ad : Nat → Nat} {ba : Nat → Prop} {O : Int64} {S : teS}  {k0 : Nat} {x1 : Int32} {x2 : Int32} {res : Int32} (hk0 : k0 < 18) (X : teC wsX1_lead RX1 cX1_lead 4 (some .int) D cy ba p s m args meth c) (H : Heap) (locs : List Loc) (ls : Array Slot) (hR : teR D cy ad ba O S H) (hS : va_S (teA ba) s.heap H locs) (hl : lv_has ls 4 [(0, .ref (ad (20 * k0))), (1, .int x1), (2, .int x2)]) (hf : fX1_lead k0 x1 x2 S = some res) : W p l e (headSpec wsX1_lead rmX1_lead).room s m args below meth c H locs 0 0 (MQ below (va_Qi (fun a (u : teS) => a = res ∧ u = S) (fun u t => teR D cy ad ba O u t.heap) (teA ba)) args s 0 0 (teA ba)) (F0 m 0 ls []) := by
  have hx := X.1
  have hb := X.2.1
  have hown := X.2.2.2.2.1
  unfold fX1_lead at hf
  refine lv_aload_n hx hb dX1_lead_0 rfl (lv_at hl 0 rfl) ?_
  refine rg_1_0 X hR hk0 iX1_lead_1 wX1_lead_11 dX1_lead_1 ?_
  refine lv_iload_n hx hb dX1_lead_4 rfl (lv_at hl 1 rfl) ?_
  obtain ⟨h_1, hf⟩ := chk_some hf
  refine ra_mem X hR hk0 h_1 dX1_lead_5 ?_
  refine rg_3_1 X hR hk0 (tein_lt h_1) iX1_lead_3 wX1_lead_40 dX1_lead_6 ?_
  refine lv_istore_n (lv' := [(3, .int (S k0 (2 + 10 * x1.toNatClampNeg + 4))), (0, .ref (ad (20 * k0))), (1, .int x1), (2, .int x2)]) hx hb dX1_lead_9 rfl hl (by decide) rfl (fun ls hl => ?_)
  refine lv_aload_n hx hb dX1_lead_10 rfl (lv_at hl 1 rfl) ?_
  refine rg_1_0 X hR hk0 iX1_lead_1 wX1_lead_11 dX1_lead_11 ?_
  refine lv_iload_n hx hb dX1_lead_14 rfl (lv_at hl 3 rfl) ?_
  obtain ⟨h_2, hf⟩ := chk_some hf
  refine ra_mem X hR hk0 h_2 dX1_lead_15 ?_
  refine rg_3_0 X hR hk0 (tein_lt h_2) iX1_lead_3 wX1_lead_36 dX1_lead_16 ?_
  refine lv_iload_n hx hb dX1_lead_19 rfl (lv_at hl 0 rfl) ?_
  obtain ⟨h_3, hf⟩ := chk_some hf
  refine ra_lev X hR hk0 (tein_lt h_2) h_3 dX1_lead_20 ?_
  refine lv_aload_n hx hb dX1_lead_21 rfl (lv_at hl 1 rfl) ?_
  refine rg_1_0 X hR hk0 iX1_lead_1 wX1_lead_11 dX1_lead_22 ?_
  refine lv_iload_n hx hb dX1_lead_25 rfl (lv_at hl 2 rfl) ?_
  refine ra_mem X hR hk0 h_1 dX1_lead_26 ?_
  refine rg_3_0 X hR hk0 (tein_lt h_1) iX1_lead_3 wX1_lead_36 dX1_lead_27 ?_
  refine lv_iload_n hx hb dX1_lead_30 rfl (lv_at hl 0 rfl) ?_
  refine ra_lev X hR hk0 (tein_lt h_1) h_3 dX1_lead_31 ?_
  refine lv_isub hx hb dX1_lead_32 ?_
  exact eI X hR hS (Option.some.inj hf) rfl dX1_lead_33
theorem zcX1_lead (l : Launch) (D : va_G) (cy : Nat → ClassId) (ad : Nat → Nat) (ba : Nat → Prop) (O : Int64) (S : teS) (k0 : Nat) (x1 : Int32) (x2 : Int32) (hk0 : k0 < 18) (res : Int32) (hf : fX1_lead k0 x1 x2 S = some res) : cI l yX1_lead wsX1_lead rmX1_lead D cy ad ba O S [.ref (ad (20 * k0)), .int x1, .int x2] res S :=
  te_of (by decide +kernel) rfl (Nat.le_of_ble_eq_true rfl) (fun p e s m below meth c ls X hR hS hl => bX1_lead_0 (S := S) (k0 := k0) (x1 := x1) (x2 := x2) hk0 X _ _ _ hR hS hl hf)
abbrev rmX1_fit : Room := { frames := 1, cells := 0, slots := 0, locals := 23 }
theorem kdX1_fit : yX1_fit.cls = RX1 ∧ yX1_fit.cls ≠ "java/lang/invoke/MethodHandle" ∧ yX1_fit.cls ≠ "java/lang/invoke/VarHandle" ∧ (parseMethodDescriptor yX1_fit.desc).map (fun d => d.parameters.length) = some 2 := by decide +kernel
set_option maxRecDepth 100000 in
set_option maxHeartbeats 4000000 in
theorem bX1_fit_0 {p : Program} {l : Launch} {e : Env} {s : State} {m : MethodId} {args : Array Value} {below : List Frame} {meth : Method} {c : Code} {D : va_G} {cy : Nat → ClassId} {ad : Nat → Nat} {ba : Nat → Prop} {O : Int64} {S : teS}  {k0 : Nat} {x1 : Int32} {x2 : Int32} {res : Int32} (hk0 : k0 < 18) (X : teC wsX1_fit RX1 cX1_fit 3 (some .boolean) D cy ba p s m args meth c) (H : Heap) (locs : List Loc) (ls : Array Slot) (hR : teR D cy ad ba O S H) (hS : va_S (teA ba) s.heap H locs) (hl : lv_has ls 3 [(0, .ref (ad (20 * k0))), (1, .int x1), (2, .int x2)]) (hf : fX1_fit k0 x1 x2 S = some res) : W p l e (headSpec wsX1_fit rmX1_fit).room s m args below meth c H locs 0 0 (MQ below (va_Qi (fun a (u : teS) => a = res ∧ u = S) (fun u t => teR D cy ad ba O u t.heap) (teA ba)) args s 0 0 (teA ba)) (F0 m 0 ls []) := by
  have hx := X.1
  have hb := X.2.1
  have hown := X.2.2.2.2.1
  unfold fX1_fit at hf
  refine lv_aload_n hx hb dX1_fit_0 rfl (lv_at hl 0 rfl) ?_
  refine lv_iload_n hx hb dX1_fit_1 rfl (lv_at hl 1 rfl) ?_
  refine lv_iload_n hx hb dX1_fit_2 rfl (lv_at hl 2 rfl) ?_
  obtain ⟨r_1, hq_2, hf⟩ := bd1_some hf
  refine kVi (id := (20 * k0)) (As := [.int x1, .int x2]) (rest := []) X hR hS (zcX1_lead l D cy ad ba O S k0 x1 x2 hk0 _ hq_2) (cwV 2 X.2.2.2.2.2.1 gX1_fit_X1_lead rfl rfl rfl kdX1_lead ⟨(Nat.le_of_ble_eq_true rfl), (Nat.le_of_ble_eq_true rfl)⟩) (te_idc hk0) (teE_circ cy ad O S hk0) rfl rfl rfl hl.1 (Nat.le_of_ble_eq_true rfl) ⟨(Nat.le_of_ble_eq_true rfl), (Nat.le_of_ble_eq_true rfl)⟩ dX1_fit_3 (fun H locs hR hS => ?_)
  refine lv_iconst (v := (2 : Int32)) hx hb dX1_fit_6 (by decide) ?_
  refine lv_icmp_lt (tgt := 24) hx hb dX1_fit_7 (by decide) (fun c_3 => ?_) (fun c_3 => ?_)
  · replace hf := ite_t c_3 hf
    refine lv_iconst (v := (0 : Int32)) hx hb dX1_fit_24 (by decide) ?_
    exact eZ X hR hS (by decide) (Option.some.inj hf) rfl dX1_fit_25
  · replace hf := ite_f c_3 hf
    refine lv_aload_n hx hb dX1_fit_10 rfl (lv_at hl 0 rfl) ?_
    refine lv_iload_n hx hb dX1_fit_11 rfl (lv_at hl 2 rfl) ?_
    refine lv_iload_n hx hb dX1_fit_12 rfl (lv_at hl 1 rfl) ?_
    obtain ⟨r_4, hq_5, hf⟩ := bd1_some hf
    refine kVi (id := (20 * k0)) (As := [.int x2, .int x1]) (rest := []) X hR hS (zcX1_lead l D cy ad ba O S k0 x2 x1 hk0 _ hq_5) (cwV 2 X.2.2.2.2.2.1 gX1_fit_X1_lead rfl rfl rfl kdX1_lead ⟨(Nat.le_of_ble_eq_true rfl), (Nat.le_of_ble_eq_true rfl)⟩) (te_idc hk0) (teE_circ cy ad O S hk0) rfl rfl rfl hl.1 (Nat.le_of_ble_eq_true rfl) ⟨(Nat.le_of_ble_eq_true rfl), (Nat.le_of_ble_eq_true rfl)⟩ dX1_fit_13 (fun H locs hR hS => ?_)
    refine lv_iconst (v := (2 : Int32)) hx hb dX1_fit_16 (by decide) ?_
    refine lv_icmp_lt (tgt := 24) hx hb dX1_fit_17 (by decide) (fun c_6 => ?_) (fun c_6 => ?_)
    · replace hf := ite_t c_6 hf
      refine lv_iconst (v := (0 : Int32)) hx hb dX1_fit_24 (by decide) ?_
      exact eZ X hR hS (by decide) (Option.some.inj hf) rfl dX1_fit_25
    · replace hf := ite_f c_6 hf
      refine lv_iconst (v := (1 : Int32)) hx hb dX1_fit_20 (by decide) ?_
      refine lv_goto (tgt := 25) hx hb dX1_fit_21 (by decide) ?_
      exact eZ X hR hS (by decide) (Option.some.inj hf) rfl dX1_fit_25
theorem zcX1_fit (l : Launch) (D : va_G) (cy : Nat → ClassId) (ad : Nat → Nat) (ba : Nat → Prop) (O : Int64) (S : teS) (k0 : Nat) (x1 : Int32) (x2 : Int32) (hk0 : k0 < 18) (res : Int32) (hf : fX1_fit k0 x1 x2 S = some res) : cI l yX1_fit wsX1_fit rmX1_fit D cy ad ba O S [.ref (ad (20 * k0)), .int x1, .int x2] res S :=
  te_of (by decide +kernel) rfl (Nat.le_of_ble_eq_true rfl) (fun p e s m below meth c ls X hR hS hl => bX1_fit_0 (S := S) (k0 := k0) (x1 := x1) (x2 := x2) hk0 X _ _ _ hR hS hl hf)
abbrev rmX1_score : Room := { frames := 1, cells := 0, slots := 0, locals := 23 }
theorem kdX1_score : yX1_score.cls = RX1 ∧ yX1_score.cls ≠ "java/lang/invoke/MethodHandle" ∧ yX1_score.cls ≠ "java/lang/invoke/VarHandle" ∧ (parseMethodDescriptor yX1_score.desc).map (fun d => d.parameters.length) = some 2 := by decide +kernel
theorem wX1_score_11 : Cond.fieldLink RX1 11 "TandemExchange$Circle" "members" "[LTandemExchange$Member;" ∈ wsX1_score := by decide +kernel
theorem iX1_score_1 : ∀ w ∈ wsX10, w ∈ wsX1_score := fun _ h => List.mem_cons_of_mem _ (List.mem_append_left _ (List.mem_append_right _ h))
theorem wX1_score_49 : Cond.fieldLink RX1 49 "TandemExchange$Member" "missed" "I" ∈ wsX1_score := by decide +kernel
theorem iX1_score_3 : ∀ w ∈ wsX30, w ∈ wsX1_score := fun _ h => List.mem_cons_of_mem _ (List.mem_append_right _ h)
theorem wX1_score_46 : Cond.fieldLink RX1 46 "TandemExchange$Member" "credits" "I" ∈ wsX1_score := by decide +kernel
set_option maxRecDepth 100000 in
set_option maxHeartbeats 4000000 in
theorem bX1_score_0 {p : Program} {l : Launch} {e : Env} {s : State} {m : MethodId} {args : Array Value} {below : List Frame} {meth : Method} {c : Code} {D : va_G} {cy : Nat → ClassId} {ad : Nat → Nat} {ba : Nat → Prop} {O : Int64} {S : teS}  {k0 : Nat} {x1 : Int32} {x2 : Int32} {res : Int32} (hk0 : k0 < 18) (X : teC wsX1_score RX1 cX1_score 4 (some .int) D cy ba p s m args meth c) (H : Heap) (locs : List Loc) (ls : Array Slot) (hR : teR D cy ad ba O S H) (hS : va_S (teA ba) s.heap H locs) (hl : lv_has ls 4 [(0, .ref (ad (20 * k0))), (1, .int x1), (2, .int x2)]) (hf : fX1_score k0 x1 x2 S = some res) : W p l e (headSpec wsX1_score rmX1_score).room s m args below meth c H locs 0 0 (MQ below (va_Qi (fun a (u : teS) => a = res ∧ u = S) (fun u t => teR D cy ad ba O u t.heap) (teA ba)) args s 0 0 (teA ba)) (F0 m 0 ls []) := by
  have hx := X.1
  have hb := X.2.1
  have hown := X.2.2.2.2.1
  unfold fX1_score at hf
  refine lv_aload_n hx hb dX1_score_0 rfl (lv_at hl 0 rfl) ?_
  refine rg_1_0 X hR hk0 iX1_score_1 wX1_score_11 dX1_score_1 ?_
  refine lv_iload_n hx hb dX1_score_4 rfl (lv_at hl 2 rfl) ?_
  obtain ⟨h_1, hf⟩ := chk_some hf
  refine ra_mem X hR hk0 h_1 dX1_score_5 ?_
  refine lv_astore_n (lv' := [(3, .ref (ad (20 * k0 + 2 + x2.toNatClampNeg))), (0, .ref (ad (20 * k0))), (1, .int x1), (2, .int x2)]) hx hb dX1_score_6 rfl hl (by decide) rfl (fun ls hl => ?_)
  refine lv_bipush (v := (10 : Int32)) hx hb dX1_score_7 (by decide) ?_
  refine lv_aload_n hx hb dX1_score_9 rfl (lv_at hl 1 rfl) ?_
  refine lv_iload_n hx hb dX1_score_10 rfl (lv_at hl 2 rfl) ?_
  refine lv_iload_n hx hb dX1_score_11 rfl (lv_at hl 3 rfl) ?_
  obtain ⟨r_2, hq_3, hf⟩ := bd1_some hf
  refine kVi (id := (20 * k0)) (As := [.int x1, .int x2]) (rest := [.int (10 : Int32)]) X hR hS (zcX1_lead l D cy ad ba O S k0 x1 x2 hk0 _ hq_3) (cwV 2 X.2.2.2.2.2.1 gX1_score_X1_lead rfl rfl rfl kdX1_lead ⟨(Nat.le_of_ble_eq_true rfl), (Nat.le_of_ble_eq_true rfl)⟩) (te_idc hk0) (teE_circ cy ad O S hk0) rfl rfl rfl hl.1 (Nat.le_of_ble_eq_true rfl) ⟨(Nat.le_of_ble_eq_true rfl), (Nat.le_of_ble_eq_true rfl)⟩ dX1_score_12 (fun H locs hR hS => ?_)
  refine lv_imul hx hb dX1_score_15 ?_
  refine lv_iconst (v := (5 : Int32)) hx hb dX1_score_16 (by decide) ?_
  refine lv_aload_n hx hb dX1_score_17 rfl (lv_at hl 0 rfl) ?_
  refine rg_3_4 X hR hk0 (tein_lt h_1) iX1_score_3 wX1_score_49 dX1_score_18 ?_
  refine lv_imul hx hb dX1_score_21 ?_
  refine lv_isub hx hb dX1_score_22 ?_
  refine lv_aload_n hx hb dX1_score_23 rfl (lv_at hl 0 rfl) ?_
  refine rg_3_3 X hR hk0 (tein_lt h_1) iX1_score_3 wX1_score_46 dX1_score_24 ?_
  refine lv_iconst (v := (4 : Int32)) hx hb dX1_score_27 (by decide) ?_
  obtain ⟨r_4, hq_5, hf⟩ := bd1_some hf
  refine kSi (As := [.int (S k0 (2 + 10 * x2.toNatClampNeg + 6)), .int (4 : Int32)]) (rest := [.int (((10 : Int32) * r_2) - ((5 : Int32) * (S k0 (2 + 10 * x2.toNatClampNeg + 7))))]) X hR hS (zcJ9_floorDiv_7cf53 l D cy ad ba O S (S k0 (2 + 10 * x2.toNatClampNeg + 6)) (4 : Int32) _ hq_5) (va_cwS 2 X.2.2.2.2.2.1 gX1_score_J9_floorDiv_7cf53 rfl rfl rfl kdJ9_floorDiv_7cf53.2 ⟨(Nat.le_of_ble_eq_true rfl), (Nat.le_of_ble_eq_true rfl)⟩)  rfl rfl hl.1 (Nat.le_of_ble_eq_true rfl) ⟨(Nat.le_of_ble_eq_true rfl), (Nat.le_of_ble_eq_true rfl)⟩ dX1_score_28 (fun H locs hR hS => ?_)
  refine lv_iadd hx hb dX1_score_31 ?_
  exact eI X hR hS (Option.some.inj hf) rfl dX1_score_32
theorem zcX1_score (l : Launch) (D : va_G) (cy : Nat → ClassId) (ad : Nat → Nat) (ba : Nat → Prop) (O : Int64) (S : teS) (k0 : Nat) (x1 : Int32) (x2 : Int32) (hk0 : k0 < 18) (res : Int32) (hf : fX1_score k0 x1 x2 S = some res) : cI l yX1_score wsX1_score rmX1_score D cy ad ba O S [.ref (ad (20 * k0)), .int x1, .int x2] res S :=
  te_of (by decide +kernel) rfl (Nat.le_of_ble_eq_true rfl) (fun p e s m below meth c ls X hR hS hl => bX1_score_0 (S := S) (k0 := k0) (x1 := x1) (x2 := x2) hk0 X _ _ _ hR hS hl hf)
abbrev rmX1_value : Room := { frames := 2, cells := 0, slots := 0, locals := 46 }
theorem kdX1_value : yX1_value.cls = RX1 ∧ yX1_value.cls ≠ "java/lang/invoke/MethodHandle" ∧ yX1_value.cls ≠ "java/lang/invoke/VarHandle" ∧ (parseMethodDescriptor yX1_value.desc).map (fun d => d.parameters.length) = some 2 := by decide +kernel
set_option maxRecDepth 100000 in
set_option maxHeartbeats 4000000 in
theorem bX1_value_0 {p : Program} {l : Launch} {e : Env} {s : State} {m : MethodId} {args : Array Value} {below : List Frame} {meth : Method} {c : Code} {D : va_G} {cy : Nat → ClassId} {ad : Nat → Nat} {ba : Nat → Prop} {O : Int64} {S : teS}  {k0 : Nat} {x1 : Int32} {x2 : Int32} {res : Int32} (hk0 : k0 < 18) (X : teC wsX1_value RX1 cX1_value 3 (some .int) D cy ba p s m args meth c) (H : Heap) (locs : List Loc) (ls : Array Slot) (hR : teR D cy ad ba O S H) (hS : va_S (teA ba) s.heap H locs) (hl : lv_has ls 3 [(0, .ref (ad (20 * k0))), (1, .int x1), (2, .int x2)]) (hf : fX1_value k0 x1 x2 S = some res) : W p l e (headSpec wsX1_value rmX1_value).room s m args below meth c H locs 0 0 (MQ below (va_Qi (fun a (u : teS) => a = res ∧ u = S) (fun u t => teR D cy ad ba O u t.heap) (teA ba)) args s 0 0 (teA ba)) (F0 m 0 ls []) := by
  have hx := X.1
  have hb := X.2.1
  have hown := X.2.2.2.2.1
  unfold fX1_value at hf
  refine lv_aload_n hx hb dX1_value_0 rfl (lv_at hl 0 rfl) ?_
  refine lv_iload_n hx hb dX1_value_1 rfl (lv_at hl 1 rfl) ?_
  refine lv_iload_n hx hb dX1_value_2 rfl (lv_at hl 2 rfl) ?_
  obtain ⟨r_1, hq_2, hf⟩ := bd1_some hf
  refine kVi (id := (20 * k0)) (As := [.int x1, .int x2]) (rest := []) X hR hS (zcX1_score l D cy ad ba O S k0 x1 x2 hk0 _ hq_2) (cwV 2 X.2.2.2.2.2.1 gX1_value_X1_score rfl rfl rfl kdX1_score ⟨(Nat.le_of_ble_eq_true rfl), (Nat.le_of_ble_eq_true rfl)⟩) (te_idc hk0) (teE_circ cy ad O S hk0) rfl rfl rfl hl.1 (Nat.le_of_ble_eq_true rfl) ⟨(Nat.le_of_ble_eq_true rfl), (Nat.le_of_ble_eq_true rfl)⟩ dX1_value_3 (fun H locs hR hS => ?_)
  refine lv_aload_n hx hb dX1_value_6 rfl (lv_at hl 0 rfl) ?_
  refine lv_iload_n hx hb dX1_value_7 rfl (lv_at hl 2 rfl) ?_
  refine lv_iload_n hx hb dX1_value_8 rfl (lv_at hl 1 rfl) ?_
  obtain ⟨r_3, hq_4, hf⟩ := bd1_some hf
  refine kVi (id := (20 * k0)) (As := [.int x2, .int x1]) (rest := [.int r_1]) X hR hS (zcX1_score l D cy ad ba O S k0 x2 x1 hk0 _ hq_4) (cwV 2 X.2.2.2.2.2.1 gX1_value_X1_score rfl rfl rfl kdX1_score ⟨(Nat.le_of_ble_eq_true rfl), (Nat.le_of_ble_eq_true rfl)⟩) (te_idc hk0) (teE_circ cy ad O S hk0) rfl rfl rfl hl.1 (Nat.le_of_ble_eq_true rfl) ⟨(Nat.le_of_ble_eq_true rfl), (Nat.le_of_ble_eq_true rfl)⟩ dX1_value_9 (fun H locs hR hS => ?_)
  refine lv_iadd hx hb dX1_value_12 ?_
  exact eI X hR hS (Option.some.inj hf) rfl dX1_value_13
theorem zcX1_value (l : Launch) (D : va_G) (cy : Nat → ClassId) (ad : Nat → Nat) (ba : Nat → Prop) (O : Int64) (S : teS) (k0 : Nat) (x1 : Int32) (x2 : Int32) (hk0 : k0 < 18) (res : Int32) (hf : fX1_value k0 x1 x2 S = some res) : cI l yX1_value wsX1_value rmX1_value D cy ad ba O S [.ref (ad (20 * k0)), .int x1, .int x2] res S :=
  te_of (by decide +kernel) rfl (Nat.le_of_ble_eq_true rfl) (fun p e s m below meth c ls X hR hS hl => bX1_value_0 (S := S) (k0 := k0) (x1 := x1) (x2 := x2) hk0 X _ _ _ hR hS hl hf)
abbrev rmX1_copyFrom : Room := { frames := 2, cells := 0, slots := 0, locals := 81 }
theorem kdX1_copyFrom : yX1_copyFrom.cls = RX1 ∧ yX1_copyFrom.cls ≠ "java/lang/invoke/MethodHandle" ∧ yX1_copyFrom.cls ≠ "java/lang/invoke/VarHandle" ∧ (parseMethodDescriptor yX1_copyFrom.desc).map (fun d => d.parameters.length) = some 1 := by decide +kernel
theorem wX1_copyFrom_18 : Cond.fieldLink RX1 18 "TandemExchange$Circle" "size" "I" ∈ wsX1_copyFrom := by decide +kernel
theorem iX1_copyFrom_1 : ∀ w ∈ wsX10, w ∈ wsX1_copyFrom := fun _ h => List.mem_cons_of_mem _ (List.mem_append_left _ (List.mem_append_right _ h))
theorem wX1_copyFrom_26 : Cond.fieldLink RX1 26 "TandemExchange$Circle" "weeks" "I" ∈ wsX1_copyFrom := by decide +kernel
theorem wX1_copyFrom_11 : Cond.fieldLink RX1 11 "TandemExchange$Circle" "members" "[LTandemExchange$Member;" ∈ wsX1_copyFrom := by decide +kernel
set_option maxRecDepth 100000 in
set_option maxHeartbeats 4000000 in
theorem bX1_copyFrom_2 {p : Program} {l : Launch} {e : Env} {s : State} {m : MethodId} {args : Array Value} {below : List Frame} {meth : Method} {c : Code} {D : va_G} {cy : Nat → ClassId} {ad : Nat → Nat} {ba : Nat → Prop} {O : Int64} {S : teS}  {k0 : Nat} {k1 : Nat} {res : teS} (hk0 : k0 < 18) (hk1 : k1 < 18) (X : teC wsX1_copyFrom RX1 cX1_copyFrom 3 none D cy ba p s m args meth c) : ∀ (n : Nat), ∀ (S1 : teS) (v2 : Int32) (H : Heap) (locs : List Loc) (ls : Array Slot), teR D cy ad ba O S1 H → va_S (teA ba) s.heap H locs → lv_has ls 3 [(0, .ref (ad (20 * k0))), (1, .ref (ad (20 * k1))), (2, .int v2)] → fX1_copyFrom_2 k0 k1 n S1 v2 = some res → W p l e (headSpec wsX1_copyFrom rmX1_copyFrom).room s m args below meth c H locs 0 0 (MQ below (va_Qv (fun (u : teS) => u = res) (fun u t => teR D cy ad ba O u t.heap) (teA ba)) args s 0 0 (teA ba)) (F0 m 2 ls []) := by
  have hx := X.1
  have hb := X.2.1
  have hown := X.2.2.2.2.1
  intro n
  induction n with
  | zero =>
    intro S1 v2 H locs ls hR hS hl hf
    exact nomatch hf
  | succ n ih =>
    intro S1 v2 H locs ls hR hS hl hf
    unfold fX1_copyFrom_2 at hf
    refine lv_iload_n hx hb dX1_copyFrom_2 rfl (lv_at hl 2 rfl) ?_
    refine lv_aload_n hx hb dX1_copyFrom_3 rfl (lv_at hl 1 rfl) ?_
    refine rg_1_1 X hR hk1 iX1_copyFrom_1 wX1_copyFrom_18 dX1_copyFrom_4 ?_
    refine lv_icmp_ge (tgt := 31) hx hb dX1_copyFrom_7 (by decide) (fun c_1 => ?_) (fun c_1 => ?_)
    · replace hf := ite_t c_1 hf
      refine lv_aload_n hx hb dX1_copyFrom_31 rfl (lv_at hl 0 rfl) ?_
      refine lv_aload_n hx hb dX1_copyFrom_32 rfl (lv_at hl 1 rfl) ?_
      refine rg_1_1 X hR hk1 iX1_copyFrom_1 wX1_copyFrom_18 dX1_copyFrom_33 ?_
      refine rp_1_1 X hR hS hk0 iX1_copyFrom_1 wX1_copyFrom_18 dX1_copyFrom_36 (fun H locs hR hS => ?_)
      generalize teu S1 k0 0 (S1 k1 0) = S2 at hf hR
      replace hf := lt1_e hf
      refine lv_aload_n hx hb dX1_copyFrom_39 rfl (lv_at hl 0 rfl) ?_
      refine lv_aload_n hx hb dX1_copyFrom_40 rfl (lv_at hl 1 rfl) ?_
      refine rg_1_2 X hR hk1 iX1_copyFrom_1 wX1_copyFrom_26 dX1_copyFrom_41 ?_
      refine rp_1_2 X hR hS hk0 iX1_copyFrom_1 wX1_copyFrom_26 dX1_copyFrom_44 (fun H locs hR hS => ?_)
      generalize teu S2 k0 1 (S2 k1 1) = S3 at hf hR
      replace hf := lt1_e hf
      exact eV X hR hS (Option.some.inj hf) dX1_copyFrom_47
    · replace hf := ite_f c_1 hf
      refine lv_aload_n hx hb dX1_copyFrom_10 rfl (lv_at hl 0 rfl) ?_
      refine rg_1_0 X hR hk0 iX1_copyFrom_1 wX1_copyFrom_11 dX1_copyFrom_11 ?_
      refine lv_iload_n hx hb dX1_copyFrom_14 rfl (lv_at hl 2 rfl) ?_
      obtain ⟨h_2, hf⟩ := chk_some hf
      refine ra_mem X hR hk0 h_2 dX1_copyFrom_15 ?_
      refine lv_aload_n hx hb dX1_copyFrom_16 rfl (lv_at hl 1 rfl) ?_
      refine rg_1_0 X hR hk1 iX1_copyFrom_1 wX1_copyFrom_11 dX1_copyFrom_17 ?_
      refine lv_iload_n hx hb dX1_copyFrom_20 rfl (lv_at hl 2 rfl) ?_
      refine ra_mem X hR hk1 h_2 dX1_copyFrom_21 ?_
      obtain ⟨S4, hq_4, hf⟩ := bd1_some hf
      refine kVv (id := (20 * k0 + 2 + v2.toNatClampNeg)) (As := [.ref (ad (20 * k1 + 2 + v2.toNatClampNeg))]) (rest := []) X hR hS (zcX3_copyFrom l D cy ad ba O S1 k0 v2.toNatClampNeg k1 v2.toNatClampNeg hk0 (tein_lt h_2) hk1 (tein_lt h_2) _ hq_4) (cwV 1 X.2.2.2.2.2.1 gX1_copyFrom_X3_copyFrom rfl rfl rfl kdX3_copyFrom ⟨(Nat.le_of_ble_eq_true rfl), (Nat.le_of_ble_eq_true rfl)⟩) (te_idm hk0 (tein_lt h_2)) (teE_memb cy ad O S1 hk0 (tein_lt h_2)) rfl rfl rfl hl.1 (Nat.le_of_ble_eq_true rfl) ⟨(Nat.le_of_ble_eq_true rfl), (Nat.le_of_ble_eq_true rfl)⟩ dX1_copyFrom_22 (fun H locs hR hS => ?_)
      refine lv_iinc (v := (v2 + (1 : Int32))) (lv' := [(2, .int (v2 + (1 : Int32))), (0, .ref (ad (20 * k0))), (1, .ref (ad (20 * k1)))]) hx hb dX1_copyFrom_25 hl (k := 2) rfl rfl (by decide) rfl (fun ls hl => ?_)
      refine lv_goto (tgt := 2) hx hb dX1_copyFrom_28 (by decide) ?_
      exact ih S4 ((v2 + (1 : Int32))) _ _ _ hR hS (lv_sub hl [1, 2, 0] rfl) hf
set_option maxRecDepth 100000 in
set_option maxHeartbeats 4000000 in
theorem bX1_copyFrom_0 {p : Program} {l : Launch} {e : Env} {s : State} {m : MethodId} {args : Array Value} {below : List Frame} {meth : Method} {c : Code} {D : va_G} {cy : Nat → ClassId} {ad : Nat → Nat} {ba : Nat → Prop} {O : Int64} {S : teS}  {k0 : Nat} {k1 : Nat} {res : teS} (hk0 : k0 < 18) (hk1 : k1 < 18) (X : teC wsX1_copyFrom RX1 cX1_copyFrom 3 none D cy ba p s m args meth c) (H : Heap) (locs : List Loc) (ls : Array Slot) (hR : teR D cy ad ba O S H) (hS : va_S (teA ba) s.heap H locs) (hl : lv_has ls 3 [(0, .ref (ad (20 * k0))), (1, .ref (ad (20 * k1)))]) (hf : fX1_copyFrom k0 k1 S = some res) : W p l e (headSpec wsX1_copyFrom rmX1_copyFrom).room s m args below meth c H locs 0 0 (MQ below (va_Qv (fun (u : teS) => u = res) (fun u t => teR D cy ad ba O u t.heap) (teA ba)) args s 0 0 (teA ba)) (F0 m 0 ls []) := by
  have hx := X.1
  have hb := X.2.1
  have hown := X.2.2.2.2.1
  unfold fX1_copyFrom at hf
  refine lv_iconst (v := (0 : Int32)) hx hb dX1_copyFrom_0 (by decide) ?_
  refine lv_istore_n (lv' := [(2, .int (0 : Int32)), (0, .ref (ad (20 * k0))), (1, .ref (ad (20 * k1)))]) hx hb dX1_copyFrom_1 rfl hl (by decide) rfl (fun ls hl => ?_)
  exact bX1_copyFrom_2 (S := S) (k0 := k0) (k1 := k1) hk0 hk1 X 2000 S ((0 : Int32)) _ _ _ hR hS (lv_sub hl [1, 2, 0] rfl) hf
theorem zcX1_copyFrom (l : Launch) (D : va_G) (cy : Nat → ClassId) (ad : Nat → Nat) (ba : Nat → Prop) (O : Int64) (S : teS) (k0 : Nat) (k1 : Nat) (hk0 : k0 < 18) (hk1 : k1 < 18) (res : teS) (hf : fX1_copyFrom k0 k1 S = some res) : cV l yX1_copyFrom wsX1_copyFrom rmX1_copyFrom D cy ad ba O S [.ref (ad (20 * k0)), .ref (ad (20 * k1))] res :=
  te_of (by decide +kernel) rfl (Nat.le_of_ble_eq_true rfl) (fun p e s m below meth c ls X hR hS hl => bX1_copyFrom_0 (S := S) (k0 := k0) (k1 := k1) hk0 hk1 X _ _ _ hR hS hl hf)
abbrev rmX1_has : Room := { frames := 0, cells := 0, slots := 0, locals := 0 }
theorem kdX1_has : yX1_has.cls = RX1 ∧ yX1_has.cls ≠ "java/lang/invoke/MethodHandle" ∧ yX1_has.cls ≠ "java/lang/invoke/VarHandle" ∧ (parseMethodDescriptor yX1_has.desc).map (fun d => d.parameters.length) = some 1 := by decide +kernel
theorem wX1_has_18 : Cond.fieldLink RX1 18 "TandemExchange$Circle" "size" "I" ∈ wsX1_has := by decide +kernel
theorem iX1_has_1 : ∀ w ∈ wsX10, w ∈ wsX1_has := fun _ h => List.mem_cons_of_mem _ (List.mem_append_right _ h)
set_option maxRecDepth 100000 in
set_option maxHeartbeats 4000000 in
theorem bX1_has_0 {p : Program} {l : Launch} {e : Env} {s : State} {m : MethodId} {args : Array Value} {below : List Frame} {meth : Method} {c : Code} {D : va_G} {cy : Nat → ClassId} {ad : Nat → Nat} {ba : Nat → Prop} {O : Int64} {S : teS}  {k0 : Nat} {x1 : Int32} {res : Int32} (hk0 : k0 < 18) (X : teC wsX1_has RX1 cX1_has 2 (some .boolean) D cy ba p s m args meth c) (H : Heap) (locs : List Loc) (ls : Array Slot) (hR : teR D cy ad ba O S H) (hS : va_S (teA ba) s.heap H locs) (hl : lv_has ls 2 [(0, .ref (ad (20 * k0))), (1, .int x1)]) (hf : fX1_has k0 x1 S = some res) : W p l e (headSpec wsX1_has rmX1_has).room s m args below meth c H locs 0 0 (MQ below (va_Qi (fun a (u : teS) => a = res ∧ u = S) (fun u t => teR D cy ad ba O u t.heap) (teA ba)) args s 0 0 (teA ba)) (F0 m 0 ls []) := by
  have hx := X.1
  have hb := X.2.1
  have hown := X.2.2.2.2.1
  unfold fX1_has at hf
  refine lv_iload_n hx hb dX1_has_0 rfl (lv_at hl 1 rfl) ?_
  refine lv_if_lt (tgt := 16) hx hb dX1_has_1 (by decide) (fun c_1 => ?_) (fun c_1 => ?_)
  · replace hf := ite_t c_1 hf
    refine lv_iconst (v := (0 : Int32)) hx hb dX1_has_16 (by decide) ?_
    exact eZ X hR hS (by decide) (Option.some.inj hf) rfl dX1_has_17
  · replace hf := ite_f c_1 hf
    refine lv_iload_n hx hb dX1_has_4 rfl (lv_at hl 1 rfl) ?_
    refine lv_aload_n hx hb dX1_has_5 rfl (lv_at hl 0 rfl) ?_
    refine rg_1_1 X hR hk0 iX1_has_1 wX1_has_18 dX1_has_6 ?_
    refine lv_icmp_ge (tgt := 16) hx hb dX1_has_9 (by decide) (fun c_2 => ?_) (fun c_2 => ?_)
    · replace hf := ite_t c_2 hf
      refine lv_iconst (v := (0 : Int32)) hx hb dX1_has_16 (by decide) ?_
      exact eZ X hR hS (by decide) (Option.some.inj hf) rfl dX1_has_17
    · replace hf := ite_f c_2 hf
      refine lv_iconst (v := (1 : Int32)) hx hb dX1_has_12 (by decide) ?_
      refine lv_goto (tgt := 17) hx hb dX1_has_13 (by decide) ?_
      exact eZ X hR hS (by decide) (Option.some.inj hf) rfl dX1_has_17
theorem zcX1_has (l : Launch) (D : va_G) (cy : Nat → ClassId) (ad : Nat → Nat) (ba : Nat → Prop) (O : Int64) (S : teS) (k0 : Nat) (x1 : Int32) (hk0 : k0 < 18) (res : Int32) (hf : fX1_has k0 x1 S = some res) : cI l yX1_has wsX1_has rmX1_has D cy ad ba O S [.ref (ad (20 * k0)), .int x1] res S :=
  te_of (by decide +kernel) rfl (Nat.le_of_ble_eq_true rfl) (fun p e s m below meth c ls X hR hS hl => bX1_has_0 (S := S) (k0 := k0) (x1 := x1) hk0 X _ _ _ hR hS hl hf)
abbrev rmX1_isFree : Room := { frames := 0, cells := 0, slots := 0, locals := 0 }
theorem kdX1_isFree : yX1_isFree.cls = RX1 ∧ yX1_isFree.cls ≠ "java/lang/invoke/MethodHandle" ∧ yX1_isFree.cls ≠ "java/lang/invoke/VarHandle" ∧ (parseMethodDescriptor yX1_isFree.desc).map (fun d => d.parameters.length) = some 1 := by decide +kernel
theorem wX1_isFree_11 : Cond.fieldLink RX1 11 "TandemExchange$Circle" "members" "[LTandemExchange$Member;" ∈ wsX1_isFree := by decide +kernel
theorem iX1_isFree_1 : ∀ w ∈ wsX10, w ∈ wsX1_isFree := fun _ h => List.mem_cons_of_mem _ (List.mem_append_left _ (List.mem_append_right _ h))
theorem wX1_isFree_29 : Cond.fieldLink RX1 29 "TandemExchange$Member" "partner" "I" ∈ wsX1_isFree := by decide +kernel
theorem iX1_isFree_3 : ∀ w ∈ wsX30, w ∈ wsX1_isFree := fun _ h => List.mem_cons_of_mem _ (List.mem_append_right _ h)
set_option maxRecDepth 100000 in
set_option maxHeartbeats 4000000 in
theorem bX1_isFree_0 {p : Program} {l : Launch} {e : Env} {s : State} {m : MethodId} {args : Array Value} {below : List Frame} {meth : Method} {c : Code} {D : va_G} {cy : Nat → ClassId} {ad : Nat → Nat} {ba : Nat → Prop} {O : Int64} {S : teS}  {k0 : Nat} {x1 : Int32} {res : Int32} (hk0 : k0 < 18) (X : teC wsX1_isFree RX1 cX1_isFree 2 (some .boolean) D cy ba p s m args meth c) (H : Heap) (locs : List Loc) (ls : Array Slot) (hR : teR D cy ad ba O S H) (hS : va_S (teA ba) s.heap H locs) (hl : lv_has ls 2 [(0, .ref (ad (20 * k0))), (1, .int x1)]) (hf : fX1_isFree k0 x1 S = some res) : W p l e (headSpec wsX1_isFree rmX1_isFree).room s m args below meth c H locs 0 0 (MQ below (va_Qi (fun a (u : teS) => a = res ∧ u = S) (fun u t => teR D cy ad ba O u t.heap) (teA ba)) args s 0 0 (teA ba)) (F0 m 0 ls []) := by
  have hx := X.1
  have hb := X.2.1
  have hown := X.2.2.2.2.1
  unfold fX1_isFree at hf
  refine lv_aload_n hx hb dX1_isFree_0 rfl (lv_at hl 0 rfl) ?_
  refine rg_1_0 X hR hk0 iX1_isFree_1 wX1_isFree_11 dX1_isFree_1 ?_
  refine lv_iload_n hx hb dX1_isFree_4 rfl (lv_at hl 1 rfl) ?_
  obtain ⟨h_1, hf⟩ := chk_some hf
  refine ra_mem X hR hk0 h_1 dX1_isFree_5 ?_
  refine rg_3_5 X hR hk0 (tein_lt h_1) iX1_isFree_3 wX1_isFree_29 dX1_isFree_6 ?_
  refine lv_sipush (v := (-9999 : Int32)) hx hb dX1_isFree_9 (by decide) ?_
  refine lv_icmp_ne (tgt := 19) hx hb dX1_isFree_12 (by decide) (fun c_2 => ?_) (fun c_2 => ?_)
  · replace hf := ite_f c_2 hf
    refine lv_iconst (v := (0 : Int32)) hx hb dX1_isFree_19 (by decide) ?_
    exact eZ X hR hS (by decide) (Option.some.inj hf) rfl dX1_isFree_20
  · replace hf := ite_t c_2 hf
    refine lv_iconst (v := (1 : Int32)) hx hb dX1_isFree_15 (by decide) ?_
    refine lv_goto (tgt := 20) hx hb dX1_isFree_16 (by decide) ?_
    exact eZ X hR hS (by decide) (Option.some.inj hf) rfl dX1_isFree_20
theorem zcX1_isFree (l : Launch) (D : va_G) (cy : Nat → ClassId) (ad : Nat → Nat) (ba : Nat → Prop) (O : Int64) (S : teS) (k0 : Nat) (x1 : Int32) (hk0 : k0 < 18) (res : Int32) (hf : fX1_isFree k0 x1 S = some res) : cI l yX1_isFree wsX1_isFree rmX1_isFree D cy ad ba O S [.ref (ad (20 * k0)), .int x1] res S :=
  te_of (by decide +kernel) rfl (Nat.le_of_ble_eq_true rfl) (fun p e s m below meth c ls X hR hS hl => bX1_isFree_0 (S := S) (k0 := k0) (x1 := x1) hk0 X _ _ _ hR hS hl hf)
abbrev rmX1_greaterPartner : Room := { frames := 1, cells := 0, slots := 0, locals := 21 }
theorem kdX1_greaterPartner : yX1_greaterPartner.cls = RX1 ∧ yX1_greaterPartner.cls ≠ "java/lang/invoke/MethodHandle" ∧ yX1_greaterPartner.cls ≠ "java/lang/invoke/VarHandle" ∧ (parseMethodDescriptor yX1_greaterPartner.desc).map (fun d => d.parameters.length) = some 1 := by decide +kernel
theorem wX1_greaterPartner_11 : Cond.fieldLink RX1 11 "TandemExchange$Circle" "members" "[LTandemExchange$Member;" ∈ wsX1_greaterPartner := by decide +kernel
theorem iX1_greaterPartner_1 : ∀ w ∈ wsX10, w ∈ wsX1_greaterPartner := fun _ h => List.mem_cons_of_mem _ (List.mem_append_left _ (List.mem_append_right _ h))
theorem wX1_greaterPartner_29 : Cond.fieldLink RX1 29 "TandemExchange$Member" "partner" "I" ∈ wsX1_greaterPartner := by decide +kernel
theorem iX1_greaterPartner_3 : ∀ w ∈ wsX30, w ∈ wsX1_greaterPartner := fun _ h => List.mem_cons_of_mem _ (List.mem_append_right _ h)
set_option maxRecDepth 100000 in
set_option maxHeartbeats 4000000 in
theorem bX1_greaterPartner_0 {p : Program} {l : Launch} {e : Env} {s : State} {m : MethodId} {args : Array Value} {below : List Frame} {meth : Method} {c : Code} {D : va_G} {cy : Nat → ClassId} {ad : Nat → Nat} {ba : Nat → Prop} {O : Int64} {S : teS}  {k0 : Nat} {x1 : Int32} {res : Int32} (hk0 : k0 < 18) (X : teC wsX1_greaterPartner RX1 cX1_greaterPartner 3 (some .int) D cy ba p s m args meth c) (H : Heap) (locs : List Loc) (ls : Array Slot) (hR : teR D cy ad ba O S H) (hS : va_S (teA ba) s.heap H locs) (hl : lv_has ls 3 [(0, .ref (ad (20 * k0))), (1, .int x1)]) (hf : fX1_greaterPartner k0 x1 S = some res) : W p l e (headSpec wsX1_greaterPartner rmX1_greaterPartner).room s m args below meth c H locs 0 0 (MQ below (va_Qi (fun a (u : teS) => a = res ∧ u = S) (fun u t => teR D cy ad ba O u t.heap) (teA ba)) args s 0 0 (teA ba)) (F0 m 0 ls []) := by
  have hx := X.1
  have hb := X.2.1
  have hown := X.2.2.2.2.1
  unfold fX1_greaterPartner at hf
  refine lv_aload_n hx hb dX1_greaterPartner_0 rfl (lv_at hl 0 rfl) ?_
  refine rg_1_0 X hR hk0 iX1_greaterPartner_1 wX1_greaterPartner_11 dX1_greaterPartner_1 ?_
  refine lv_iload_n hx hb dX1_greaterPartner_4 rfl (lv_at hl 1 rfl) ?_
  obtain ⟨h_1, hf⟩ := chk_some hf
  refine ra_mem X hR hk0 h_1 dX1_greaterPartner_5 ?_
  refine rg_3_5 X hR hk0 (tein_lt h_1) iX1_greaterPartner_3 wX1_greaterPartner_29 dX1_greaterPartner_6 ?_
  refine lv_istore_n (lv' := [(2, .int (S k0 (2 + 10 * x1.toNatClampNeg + 8))), (0, .ref (ad (20 * k0))), (1, .int x1)]) hx hb dX1_greaterPartner_9 rfl hl (by decide) rfl (fun ls hl => ?_)
  refine lv_aload_n hx hb dX1_greaterPartner_10 rfl (lv_at hl 1 rfl) ?_
  refine lv_iload_n hx hb dX1_greaterPartner_11 rfl (lv_at hl 0 rfl) ?_
  obtain ⟨r_2, hq_3, hf⟩ := bd1_some hf
  refine kVi (id := (20 * k0)) (As := [.int (S k0 (2 + 10 * x1.toNatClampNeg + 8))]) (rest := []) X hR hS (zcX1_has l D cy ad ba O S k0 (S k0 (2 + 10 * x1.toNatClampNeg + 8)) hk0 _ hq_3) (cwV 1 X.2.2.2.2.2.1 gX1_greaterPartner_X1_has rfl rfl rfl kdX1_has ⟨(Nat.le_of_ble_eq_true rfl), (Nat.le_of_ble_eq_true rfl)⟩) (te_idc hk0) (teE_circ cy ad O S hk0) rfl rfl rfl hl.1 (Nat.le_of_ble_eq_true rfl) ⟨(Nat.le_of_ble_eq_true rfl), (Nat.le_of_ble_eq_true rfl)⟩ dX1_greaterPartner_12 (fun H locs hR hS => ?_)
  refine lv_if_eq (tgt := 27) hx hb dX1_greaterPartner_15 (by decide) (fun c_4 => ?_) (fun c_4 => ?_)
  · replace hf := ite_t c_4 hf
    refine lv_sipush (v := (-9999 : Int32)) hx hb dX1_greaterPartner_27 (by decide) ?_
    exact eI X hR hS (Option.some.inj hf) rfl dX1_greaterPartner_30
  · replace hf := ite_f c_4 hf
    refine lv_iload_n hx hb dX1_greaterPartner_18 rfl (lv_at hl 0 rfl) ?_
    refine lv_iload_n hx hb dX1_greaterPartner_19 rfl (lv_at hl 2 rfl) ?_
    refine lv_icmp_le (tgt := 27) hx hb dX1_greaterPartner_20 (by decide) (fun c_5 => ?_) (fun c_5 => ?_)
    · replace hf := ite_t c_5 hf
      refine lv_sipush (v := (-9999 : Int32)) hx hb dX1_greaterPartner_27 (by decide) ?_
      exact eI X hR hS (Option.some.inj hf) rfl dX1_greaterPartner_30
    · replace hf := ite_f c_5 hf
      refine lv_iload_n hx hb dX1_greaterPartner_23 rfl (lv_at hl 0 rfl) ?_
      refine lv_goto (tgt := 30) hx hb dX1_greaterPartner_24 (by decide) ?_
      exact eI X hR hS (Option.some.inj hf) rfl dX1_greaterPartner_30
theorem zcX1_greaterPartner (l : Launch) (D : va_G) (cy : Nat → ClassId) (ad : Nat → Nat) (ba : Nat → Prop) (O : Int64) (S : teS) (k0 : Nat) (x1 : Int32) (hk0 : k0 < 18) (res : Int32) (hf : fX1_greaterPartner k0 x1 S = some res) : cI l yX1_greaterPartner wsX1_greaterPartner rmX1_greaterPartner D cy ad ba O S [.ref (ad (20 * k0)), .int x1] res S :=
  te_of (by decide +kernel) rfl (Nat.le_of_ble_eq_true rfl) (fun p e s m below meth c ls X hR hS hl => bX1_greaterPartner_0 (S := S) (k0 := k0) (x1 := x1) hk0 X _ _ _ hR hS hl hf)
abbrev rmX1_countFittingWith : Room := { frames := 2, cells := 0, slots := 0, locals := 45 }
theorem kdX1_countFittingWith : yX1_countFittingWith.cls = RX1 ∧ yX1_countFittingWith.cls ≠ "java/lang/invoke/MethodHandle" ∧ yX1_countFittingWith.cls ≠ "java/lang/invoke/VarHandle" ∧ (parseMethodDescriptor yX1_countFittingWith.desc).map (fun d => d.parameters.length) = some 1 := by decide +kernel
theorem wX1_countFittingWith_18 : Cond.fieldLink RX1 18 "TandemExchange$Circle" "size" "I" ∈ wsX1_countFittingWith := by decide +kernel
theorem iX1_countFittingWith_1 : ∀ w ∈ wsX10, w ∈ wsX1_countFittingWith := fun _ h => List.mem_cons_of_mem _ (List.mem_append_left _ (List.mem_append_right _ h))
set_option maxRecDepth 100000 in
set_option maxHeartbeats 4000000 in
theorem bX1_countFittingWith_4 {p : Program} {l : Launch} {e : Env} {s : State} {m : MethodId} {args : Array Value} {below : List Frame} {meth : Method} {c : Code} {D : va_G} {cy : Nat → ClassId} {ad : Nat → Nat} {ba : Nat → Prop} {O : Int64} {S : teS}  {k0 : Nat} {x1 : Int32} {res : Int32} (hk0 : k0 < 18) (X : teC wsX1_countFittingWith RX1 cX1_countFittingWith 4 (some .int) D cy ba p s m args meth c) : ∀ (n : Nat), ∀  (v2 : Int32) (v3 : Int32) (H : Heap) (locs : List Loc) (ls : Array Slot), teR D cy ad ba O S H → va_S (teA ba) s.heap H locs → lv_has ls 4 [(0, .ref (ad (20 * k0))), (1, .int x1), (2, .int v2), (3, .int v3)] → fX1_countFittingWith_4 k0 x1 n S v2 v3 = some res → W p l e (headSpec wsX1_countFittingWith rmX1_countFittingWith).room s m args below meth c H locs 0 0 (MQ below (va_Qi (fun a (u : teS) => a = res ∧ u = S) (fun u t => teR D cy ad ba O u t.heap) (teA ba)) args s 0 0 (teA ba)) (F0 m 4 ls []) := by
  have hx := X.1
  have hb := X.2.1
  have hown := X.2.2.2.2.1
  intro n
  induction n with
  | zero =>
    intro v2 v3 H locs ls hR hS hl hf
    exact nomatch hf
  | succ n ih =>
    intro v2 v3 H locs ls hR hS hl hf
    unfold fX1_countFittingWith_4 at hf
    refine lv_iload_n hx hb dX1_countFittingWith_4 rfl (lv_at hl 3 rfl) ?_
    refine lv_aload_n hx hb dX1_countFittingWith_5 rfl (lv_at hl 0 rfl) ?_
    refine rg_1_1 X hR hk0 iX1_countFittingWith_1 wX1_countFittingWith_18 dX1_countFittingWith_6 ?_
    refine lv_icmp_ge (tgt := 30) hx hb dX1_countFittingWith_9 (by decide) (fun c_1 => ?_) (fun c_1 => ?_)
    · replace hf := ite_t c_1 hf
      refine lv_iload_n hx hb dX1_countFittingWith_30 rfl (lv_at hl 2 rfl) ?_
      exact eI X hR hS (Option.some.inj hf) rfl dX1_countFittingWith_31
    · replace hf := ite_f c_1 hf
      refine lv_aload_n hx hb dX1_countFittingWith_12 rfl (lv_at hl 0 rfl) ?_
      refine lv_iload_n hx hb dX1_countFittingWith_13 rfl (lv_at hl 1 rfl) ?_
      refine lv_iload_n hx hb dX1_countFittingWith_14 rfl (lv_at hl 3 rfl) ?_
      obtain ⟨r_2, hq_3, hf⟩ := bd1_some hf
      refine kVi (id := (20 * k0)) (As := [.int x1, .int v3]) (rest := []) X hR hS (zcX1_fit l D cy ad ba O S k0 x1 v3 hk0 _ hq_3) (cwV 2 X.2.2.2.2.2.1 gX1_countFittingWith_X1_fit rfl rfl rfl kdX1_fit ⟨(Nat.le_of_ble_eq_true rfl), (Nat.le_of_ble_eq_true rfl)⟩) (te_idc hk0) (teE_circ cy ad O S hk0) rfl rfl rfl hl.1 (Nat.le_of_ble_eq_true rfl) ⟨(Nat.le_of_ble_eq_true rfl), (Nat.le_of_ble_eq_true rfl)⟩ dX1_countFittingWith_15 (fun H locs hR hS => ?_)
      refine lv_if_eq (tgt := 24) hx hb dX1_countFittingWith_18 (by decide) (fun c_4 => ?_) (fun c_4 => ?_)
      · replace hf := ite_t c_4 hf
        refine lv_iinc (v := (v3 + (1 : Int32))) (lv' := [(3, .int (v3 + (1 : Int32))), (0, .ref (ad (20 * k0))), (1, .int x1), (2, .int v2)]) hx hb dX1_countFittingWith_24 hl (k := 3) rfl rfl (by decide) rfl (fun ls hl => ?_)
        refine lv_goto (tgt := 4) hx hb dX1_countFittingWith_27 (by decide) ?_
        exact ih (v2) ((v3 + (1 : Int32))) _ _ _ hR hS (lv_sub hl [1, 2, 3, 0] rfl) hf
      · replace hf := ite_f c_4 hf
        refine lv_iinc (v := (v2 + (1 : Int32))) (lv' := [(2, .int (v2 + (1 : Int32))), (0, .ref (ad (20 * k0))), (1, .int x1), (3, .int v3)]) hx hb dX1_countFittingWith_21 hl (k := 2) rfl rfl (by decide) rfl (fun ls hl => ?_)
        refine lv_iinc (v := (v3 + (1 : Int32))) (lv' := [(3, .int (v3 + (1 : Int32))), (2, .int (v2 + (1 : Int32))), (0, .ref (ad (20 * k0))), (1, .int x1)]) hx hb dX1_countFittingWith_24 hl (k := 3) rfl rfl (by decide) rfl (fun ls hl => ?_)
        refine lv_goto (tgt := 4) hx hb dX1_countFittingWith_27 (by decide) ?_
        exact ih ((v2 + (1 : Int32))) ((v3 + (1 : Int32))) _ _ _ hR hS (lv_sub hl [2, 3, 1, 0] rfl) hf
set_option maxRecDepth 100000 in
set_option maxHeartbeats 4000000 in
theorem bX1_countFittingWith_0 {p : Program} {l : Launch} {e : Env} {s : State} {m : MethodId} {args : Array Value} {below : List Frame} {meth : Method} {c : Code} {D : va_G} {cy : Nat → ClassId} {ad : Nat → Nat} {ba : Nat → Prop} {O : Int64} {S : teS}  {k0 : Nat} {x1 : Int32} {res : Int32} (hk0 : k0 < 18) (X : teC wsX1_countFittingWith RX1 cX1_countFittingWith 4 (some .int) D cy ba p s m args meth c) (H : Heap) (locs : List Loc) (ls : Array Slot) (hR : teR D cy ad ba O S H) (hS : va_S (teA ba) s.heap H locs) (hl : lv_has ls 4 [(0, .ref (ad (20 * k0))), (1, .int x1)]) (hf : fX1_countFittingWith k0 x1 S = some res) : W p l e (headSpec wsX1_countFittingWith rmX1_countFittingWith).room s m args below meth c H locs 0 0 (MQ below (va_Qi (fun a (u : teS) => a = res ∧ u = S) (fun u t => teR D cy ad ba O u t.heap) (teA ba)) args s 0 0 (teA ba)) (F0 m 0 ls []) := by
  have hx := X.1
  have hb := X.2.1
  have hown := X.2.2.2.2.1
  unfold fX1_countFittingWith at hf
  refine lv_iconst (v := (0 : Int32)) hx hb dX1_countFittingWith_0 (by decide) ?_
  refine lv_istore_n (lv' := [(2, .int (0 : Int32)), (0, .ref (ad (20 * k0))), (1, .int x1)]) hx hb dX1_countFittingWith_1 rfl hl (by decide) rfl (fun ls hl => ?_)
  refine lv_iconst (v := (0 : Int32)) hx hb dX1_countFittingWith_2 (by decide) ?_
  refine lv_istore_n (lv' := [(3, .int (0 : Int32)), (2, .int (0 : Int32)), (0, .ref (ad (20 * k0))), (1, .int x1)]) hx hb dX1_countFittingWith_3 rfl hl (by decide) rfl (fun ls hl => ?_)
  exact bX1_countFittingWith_4 (S := S) (k0 := k0) (x1 := x1) hk0 X 2000 ((0 : Int32)) ((0 : Int32)) _ _ _ hR hS (lv_sub hl [2, 3, 1, 0] rfl) hf
theorem zcX1_countFittingWith (l : Launch) (D : va_G) (cy : Nat → ClassId) (ad : Nat → Nat) (ba : Nat → Prop) (O : Int64) (S : teS) (k0 : Nat) (x1 : Int32) (hk0 : k0 < 18) (res : Int32) (hf : fX1_countFittingWith k0 x1 S = some res) : cI l yX1_countFittingWith wsX1_countFittingWith rmX1_countFittingWith D cy ad ba O S [.ref (ad (20 * k0)), .int x1] res S :=
  te_of (by decide +kernel) rfl (Nat.le_of_ble_eq_true rfl) (fun p e s m below meth c ls X hR hS hl => bX1_countFittingWith_0 (S := S) (k0 := k0) (x1 := x1) hk0 X _ _ _ hR hS hl hf)
abbrev rmX1_numberOf : Room := { frames := 3, cells := 0, slots := 0, locals := 68 }
theorem kdX1_numberOf : yX1_numberOf.cls = RX1 ∧ yX1_numberOf.cls ≠ "java/lang/invoke/MethodHandle" ∧ yX1_numberOf.cls ≠ "java/lang/invoke/VarHandle" ∧ (parseMethodDescriptor yX1_numberOf.desc).map (fun d => d.parameters.length) = some 2 := by decide +kernel
theorem wX1_numberOf_11 : Cond.fieldLink RX1 11 "TandemExchange$Circle" "members" "[LTandemExchange$Member;" ∈ wsX1_numberOf := by decide +kernel
theorem iX1_numberOf_1 : ∀ w ∈ wsX10, w ∈ wsX1_numberOf := by decide +kernel
theorem wX1_numberOf_36 : Cond.fieldLink RX1 36 "TandemExchange$Member" "levels" "[I" ∈ wsX1_numberOf := by decide +kernel
theorem iX1_numberOf_3 : ∀ w ∈ wsX30, w ∈ wsX1_numberOf := by decide +kernel
theorem wX1_numberOf_40 : Cond.fieldLink RX1 40 "TandemExchange$Member" "wants" "I" ∈ wsX1_numberOf := by decide +kernel
theorem wX1_numberOf_43 : Cond.fieldLink RX1 43 "TandemExchange$Member" "progress" "I" ∈ wsX1_numberOf := by decide +kernel
theorem wX1_numberOf_46 : Cond.fieldLink RX1 46 "TandemExchange$Member" "credits" "I" ∈ wsX1_numberOf := by decide +kernel
theorem wX1_numberOf_49 : Cond.fieldLink RX1 49 "TandemExchange$Member" "missed" "I" ∈ wsX1_numberOf := by decide +kernel
theorem wX1_numberOf_29 : Cond.fieldLink RX1 29 "TandemExchange$Member" "partner" "I" ∈ wsX1_numberOf := by decide +kernel
theorem wX1_numberOf_55 : Cond.fieldLink RX1 55 "TandemExchange$Member" "missedInRow" "I" ∈ wsX1_numberOf := by decide +kernel
set_option maxRecDepth 100000 in
set_option maxHeartbeats 4000000 in
theorem bX1_numberOf_23 {p : Program} {l : Launch} {e : Env} {s : State} {m : MethodId} {args : Array Value} {below : List Frame} {meth : Method} {c : Code} {D : va_G} {cy : Nat → ClassId} {ad : Nat → Nat} {ba : Nat → Prop} {O : Int64} {S : teS}  {k0 : Nat} {x1 : Int32} {x2 : Int32} {res : Int32} (hk0 : k0 < 18) (X : teC wsX1_numberOf RX1 cX1_numberOf 4 (some .int) D cy ba p s m args meth c) : ∀  (n3 : Nat) (hn3 : n3 < 9) (H : Heap) (locs : List Loc) (ls : Array Slot), teR D cy ad ba O S H → va_S (teA ba) s.heap H locs → lv_has ls 4 [(0, .ref (ad (20 * k0))), (1, .int x1), (2, .int x2), (3, .ref (ad (20 * k0 + 2 + n3)))] → fX1_numberOf_23 k0 x1 x2 S n3 = some res → W p l e (headSpec wsX1_numberOf rmX1_numberOf).room s m args below meth c H locs 0 0 (MQ below (va_Qi (fun a (u : teS) => a = res ∧ u = S) (fun u t => teR D cy ad ba O u t.heap) (teA ba)) args s 0 0 (teA ba)) (F0 m 23 ls []) := by
  have hx := X.1
  have hb := X.2.1
  have hown := X.2.2.2.2.1
  intro n3 hn3 H locs ls hR hS hl hf
  unfold fX1_numberOf_23 at hf
  refine lv_iload_n hx hb dX1_numberOf_23 rfl (lv_at hl 2 rfl) ?_
  by_cases c_5 : x2 = (4 : Int32)
  · replace hf := ite_t c_5 hf
    refine lv_tableIn (off := 44) (tgt := 68) hx hb dX1_numberOf_24 (by rw [c_5]; decide) (by rw [c_5]; decide) (by rw [c_5]; decide) (by decide) ?_
    refine lv_aload_n hx hb dX1_numberOf_68 rfl (lv_at hl 3 rfl) ?_
    refine rg_3_1 X hR hk0 hn3 iX1_numberOf_3 wX1_numberOf_40 dX1_numberOf_69 ?_
    exact eI X hR hS (Option.some.inj hf) rfl dX1_numberOf_72
  replace hf := ite_f c_5 hf
  by_cases c_6 : x2 = (5 : Int32)
  · replace hf := ite_t c_6 hf
    refine lv_tableIn (off := 49) (tgt := 73) hx hb dX1_numberOf_24 (by rw [c_6]; decide) (by rw [c_6]; decide) (by rw [c_6]; decide) (by decide) ?_
    refine lv_aload_n hx hb dX1_numberOf_73 rfl (lv_at hl 3 rfl) ?_
    refine rg_3_2 X hR hk0 hn3 iX1_numberOf_3 wX1_numberOf_43 dX1_numberOf_74 ?_
    exact eI X hR hS (Option.some.inj hf) rfl dX1_numberOf_77
  replace hf := ite_f c_6 hf
  by_cases c_7 : x2 = (6 : Int32)
  · replace hf := ite_t c_7 hf
    refine lv_tableIn (off := 54) (tgt := 78) hx hb dX1_numberOf_24 (by rw [c_7]; decide) (by rw [c_7]; decide) (by rw [c_7]; decide) (by decide) ?_
    refine lv_aload_n hx hb dX1_numberOf_78 rfl (lv_at hl 3 rfl) ?_
    refine rg_3_3 X hR hk0 hn3 iX1_numberOf_3 wX1_numberOf_46 dX1_numberOf_79 ?_
    exact eI X hR hS (Option.some.inj hf) rfl dX1_numberOf_82
  replace hf := ite_f c_7 hf
  by_cases c_8 : x2 = (7 : Int32)
  · replace hf := ite_t c_8 hf
    refine lv_tableIn (off := 59) (tgt := 83) hx hb dX1_numberOf_24 (by rw [c_8]; decide) (by rw [c_8]; decide) (by rw [c_8]; decide) (by decide) ?_
    refine lv_aload_n hx hb dX1_numberOf_83 rfl (lv_at hl 3 rfl) ?_
    refine rg_3_4 X hR hk0 hn3 iX1_numberOf_3 wX1_numberOf_49 dX1_numberOf_84 ?_
    exact eI X hR hS (Option.some.inj hf) rfl dX1_numberOf_87
  replace hf := ite_f c_8 hf
  by_cases c_9 : x2 = (8 : Int32)
  · replace hf := ite_t c_9 hf
    refine lv_tableIn (off := 64) (tgt := 88) hx hb dX1_numberOf_24 (by rw [c_9]; decide) (by rw [c_9]; decide) (by rw [c_9]; decide) (by decide) ?_
    refine lv_aload_n hx hb dX1_numberOf_88 rfl (lv_at hl 3 rfl) ?_
    refine rg_3_5 X hR hk0 hn3 iX1_numberOf_3 wX1_numberOf_29 dX1_numberOf_89 ?_
    exact eI X hR hS (Option.some.inj hf) rfl dX1_numberOf_92
  replace hf := ite_f c_9 hf
  by_cases c_10 : x2 = (9 : Int32)
  · replace hf := ite_t c_10 hf
    refine lv_tableIn (off := 69) (tgt := 93) hx hb dX1_numberOf_24 (by rw [c_10]; decide) (by rw [c_10]; decide) (by rw [c_10]; decide) (by decide) ?_
    refine lv_aload_n hx hb dX1_numberOf_93 rfl (lv_at hl 0 rfl) ?_
    refine lv_iload_n hx hb dX1_numberOf_94 rfl (lv_at hl 1 rfl) ?_
    obtain ⟨r_11, hq_12, hf⟩ := bd1_some hf
    refine kVi (id := (20 * k0)) (As := [.int x1]) (rest := []) X hR hS (zcX1_isFree l D cy ad ba O S k0 x1 hk0 _ hq_12) (cwV 1 X.2.2.2.2.2.1 gX1_numberOf_X1_isFree rfl rfl rfl kdX1_isFree ⟨(Nat.le_of_ble_eq_true rfl), (Nat.le_of_ble_eq_true rfl)⟩) (te_idc hk0) (teE_circ cy ad O S hk0) rfl rfl rfl hl.1 (Nat.le_of_ble_eq_true rfl) ⟨(Nat.le_of_ble_eq_true rfl), (Nat.le_of_ble_eq_true rfl)⟩ dX1_numberOf_95 (fun H locs hR hS => ?_)
    refine lv_if_eq (tgt := 107) hx hb dX1_numberOf_98 (by decide) (fun c_13 => ?_) (fun c_13 => ?_)
    · replace hf := ite_t c_13 hf
      refine lv_aload_n hx hb dX1_numberOf_107 rfl (lv_at hl 3 rfl) ?_
      refine rg_3_6 X hR hk0 hn3 iX1_numberOf_3 wX1_numberOf_55 dX1_numberOf_108 ?_
      exact eI X hR hS (Option.some.inj hf) rfl dX1_numberOf_111
    · replace hf := ite_f c_13 hf
      refine lv_sipush (v := (-9999 : Int32)) hx hb dX1_numberOf_101 (by decide) ?_
      refine lv_goto (tgt := 111) hx hb dX1_numberOf_104 (by decide) ?_
      exact eI X hR hS (Option.some.inj hf) rfl dX1_numberOf_111
  replace hf := ite_f c_10 hf
  by_cases c_14 : x2 = (10 : Int32)
  · replace hf := ite_t c_14 hf
    refine lv_tableIn (off := 88) (tgt := 112) hx hb dX1_numberOf_24 (by rw [c_14]; decide) (by rw [c_14]; decide) (by rw [c_14]; decide) (by decide) ?_
    refine lv_aload_n hx hb dX1_numberOf_112 rfl (lv_at hl 0 rfl) ?_
    refine lv_iload_n hx hb dX1_numberOf_113 rfl (lv_at hl 1 rfl) ?_
    obtain ⟨r_15, hq_16, hf⟩ := bd1_some hf
    refine kVi (id := (20 * k0)) (As := [.int x1]) (rest := []) X hR hS (zcX1_countFittingWith l D cy ad ba O S k0 x1 hk0 _ hq_16) (cwV 1 X.2.2.2.2.2.1 gX1_numberOf_X1_countFittingWith rfl rfl rfl kdX1_countFittingWith ⟨(Nat.le_of_ble_eq_true rfl), (Nat.le_of_ble_eq_true rfl)⟩) (te_idc hk0) (teE_circ cy ad O S hk0) rfl rfl rfl hl.1 (Nat.le_of_ble_eq_true rfl) ⟨(Nat.le_of_ble_eq_true rfl), (Nat.le_of_ble_eq_true rfl)⟩ dX1_numberOf_114 (fun H locs hR hS => ?_)
    exact eI X hR hS (Option.some.inj hf) rfl dX1_numberOf_117
  replace hf := ite_f c_14 hf
  refine lv_tableOut (tgt := 118) hx hb dX1_numberOf_24 (te_sw (fun k h1 h2 => ?_)) (by decide) ?_
  · have hk : k = 4 ∨ k = 5 ∨ k = 6 ∨ k = 7 ∨ k = 8 ∨ k = 9 ∨ k = 10 := by omega
    rcases hk with rfl | rfl | rfl | rfl | rfl | rfl | rfl
    · exact lv_neT c_5 (by decide)
    · exact lv_neT c_6 (by decide)
    · exact lv_neT c_7 (by decide)
    · exact lv_neT c_8 (by decide)
    · exact lv_neT c_9 (by decide)
    · exact lv_neT c_10 (by decide)
    · exact lv_neT c_14 (by decide)
  refine lv_sipush (v := (-9999 : Int32)) hx hb dX1_numberOf_118 (by decide) ?_
  exact eI X hR hS (Option.some.inj hf) rfl dX1_numberOf_121
set_option maxRecDepth 100000 in
set_option maxHeartbeats 4000000 in
theorem bX1_numberOf_0 {p : Program} {l : Launch} {e : Env} {s : State} {m : MethodId} {args : Array Value} {below : List Frame} {meth : Method} {c : Code} {D : va_G} {cy : Nat → ClassId} {ad : Nat → Nat} {ba : Nat → Prop} {O : Int64} {S : teS}  {k0 : Nat} {x1 : Int32} {x2 : Int32} {res : Int32} (hk0 : k0 < 18) (X : teC wsX1_numberOf RX1 cX1_numberOf 4 (some .int) D cy ba p s m args meth c) (H : Heap) (locs : List Loc) (ls : Array Slot) (hR : teR D cy ad ba O S H) (hS : va_S (teA ba) s.heap H locs) (hl : lv_has ls 4 [(0, .ref (ad (20 * k0))), (1, .int x1), (2, .int x2)]) (hf : fX1_numberOf k0 x1 x2 S = some res) : W p l e (headSpec wsX1_numberOf rmX1_numberOf).room s m args below meth c H locs 0 0 (MQ below (va_Qi (fun a (u : teS) => a = res ∧ u = S) (fun u t => teR D cy ad ba O u t.heap) (teA ba)) args s 0 0 (teA ba)) (F0 m 0 ls []) := by
  have hx := X.1
  have hb := X.2.1
  have hown := X.2.2.2.2.1
  unfold fX1_numberOf at hf
  refine lv_aload_n hx hb dX1_numberOf_0 rfl (lv_at hl 0 rfl) ?_
  refine rg_1_0 X hR hk0 iX1_numberOf_1 wX1_numberOf_11 dX1_numberOf_1 ?_
  refine lv_iload_n hx hb dX1_numberOf_4 rfl (lv_at hl 1 rfl) ?_
  obtain ⟨h_1, hf⟩ := chk_some hf
  refine ra_mem X hR hk0 h_1 dX1_numberOf_5 ?_
  refine lv_astore_n (lv' := [(3, .ref (ad (20 * k0 + 2 + x1.toNatClampNeg))), (0, .ref (ad (20 * k0))), (1, .int x1), (2, .int x2)]) hx hb dX1_numberOf_6 rfl hl (by decide) rfl (fun ls hl => ?_)
  refine lv_iload_n hx hb dX1_numberOf_7 rfl (lv_at hl 3 rfl) ?_
  refine lv_if_lt (tgt := 23) hx hb dX1_numberOf_8 (by decide) (fun c_2 => ?_) (fun c_2 => ?_)
  · replace hf := ite_t c_2 hf
    exact bX1_numberOf_23 (S := S) (k0 := k0) (x1 := x1) (x2 := x2) hk0 X (x1.toNatClampNeg) (tein_lt h_1) _ _ _ hR hS (lv_sub hl [1, 2, 3, 0] rfl) hf
  · replace hf := ite_f c_2 hf
    refine lv_iload_n hx hb dX1_numberOf_11 rfl (lv_at hl 3 rfl) ?_
    refine lv_iconst (v := (4 : Int32)) hx hb dX1_numberOf_12 (by decide) ?_
    refine lv_icmp_ge (tgt := 23) hx hb dX1_numberOf_13 (by decide) (fun c_3 => ?_) (fun c_3 => ?_)
    · replace hf := ite_t c_3 hf
      exact bX1_numberOf_23 (S := S) (k0 := k0) (x1 := x1) (x2 := x2) hk0 X (x1.toNatClampNeg) (tein_lt h_1) _ _ _ hR hS (lv_sub hl [1, 2, 3, 0] rfl) hf
    · replace hf := ite_f c_3 hf
      refine lv_aload_n hx hb dX1_numberOf_16 rfl (lv_at hl 0 rfl) ?_
      refine rg_3_0 X hR hk0 (tein_lt h_1) iX1_numberOf_3 wX1_numberOf_36 dX1_numberOf_17 ?_
      refine lv_iload_n hx hb dX1_numberOf_20 rfl (lv_at hl 3 rfl) ?_
      obtain ⟨h_4, hf⟩ := chk_some hf
      refine ra_lev X hR hk0 (tein_lt h_1) h_4 dX1_numberOf_21 ?_
      exact eI X hR hS (Option.some.inj hf) rfl dX1_numberOf_22
theorem zcX1_numberOf (l : Launch) (D : va_G) (cy : Nat → ClassId) (ad : Nat → Nat) (ba : Nat → Prop) (O : Int64) (S : teS) (k0 : Nat) (x1 : Int32) (x2 : Int32) (hk0 : k0 < 18) (res : Int32) (hf : fX1_numberOf k0 x1 x2 S = some res) : cI l yX1_numberOf wsX1_numberOf rmX1_numberOf D cy ad ba O S [.ref (ad (20 * k0)), .int x1, .int x2] res S :=
  te_of (by decide +kernel) rfl (Nat.le_of_ble_eq_true rfl) (fun p e s m below meth c ls X hR hS hl => bX1_numberOf_0 (S := S) (k0 := k0) (x1 := x1) (x2 := x2) hk0 X _ _ _ hR hS hl hf)
abbrev rmX1_prefers : Room := { frames := 2, cells := 0, slots := 0, locals := 46 }
theorem kdX1_prefers : yX1_prefers.cls = RX1 ∧ yX1_prefers.cls ≠ "java/lang/invoke/MethodHandle" ∧ yX1_prefers.cls ≠ "java/lang/invoke/VarHandle" ∧ (parseMethodDescriptor yX1_prefers.desc).map (fun d => d.parameters.length) = some 2 := by decide +kernel
theorem wX1_prefers_11 : Cond.fieldLink RX1 11 "TandemExchange$Circle" "members" "[LTandemExchange$Member;" ∈ wsX1_prefers := by decide +kernel
theorem iX1_prefers_1 : ∀ w ∈ wsX10, w ∈ wsX1_prefers := fun _ h => List.mem_cons_of_mem _ (List.mem_append_left _ (List.mem_append_right _ h))
theorem wX1_prefers_29 : Cond.fieldLink RX1 29 "TandemExchange$Member" "partner" "I" ∈ wsX1_prefers := by decide +kernel
theorem iX1_prefers_3 : ∀ w ∈ wsX30, w ∈ wsX1_prefers := fun _ h => List.mem_cons_of_mem _ (List.mem_append_right _ h)
set_option maxRecDepth 100000 in
set_option maxHeartbeats 4000000 in
theorem bX1_prefers_0 {p : Program} {l : Launch} {e : Env} {s : State} {m : MethodId} {args : Array Value} {below : List Frame} {meth : Method} {c : Code} {D : va_G} {cy : Nat → ClassId} {ad : Nat → Nat} {ba : Nat → Prop} {O : Int64} {S : teS}  {k0 : Nat} {x1 : Int32} {x2 : Int32} {res : Int32} (hk0 : k0 < 18) (X : teC wsX1_prefers RX1 cX1_prefers 4 (some .boolean) D cy ba p s m args meth c) (H : Heap) (locs : List Loc) (ls : Array Slot) (hR : teR D cy ad ba O S H) (hS : va_S (teA ba) s.heap H locs) (hl : lv_has ls 4 [(0, .ref (ad (20 * k0))), (1, .int x1), (2, .int x2)]) (hf : fX1_prefers k0 x1 x2 S = some res) : W p l e (headSpec wsX1_prefers rmX1_prefers).room s m args below meth c H locs 0 0 (MQ below (va_Qi (fun a (u : teS) => a = res ∧ u = S) (fun u t => teR D cy ad ba O u t.heap) (teA ba)) args s 0 0 (teA ba)) (F0 m 0 ls []) := by
  have hx := X.1
  have hb := X.2.1
  have hown := X.2.2.2.2.1
  unfold fX1_prefers at hf
  refine lv_aload_n hx hb dX1_prefers_0 rfl (lv_at hl 0 rfl) ?_
  refine rg_1_0 X hR hk0 iX1_prefers_1 wX1_prefers_11 dX1_prefers_1 ?_
  refine lv_iload_n hx hb dX1_prefers_4 rfl (lv_at hl 1 rfl) ?_
  obtain ⟨h_1, hf⟩ := chk_some hf
  refine ra_mem X hR hk0 h_1 dX1_prefers_5 ?_
  refine rg_3_5 X hR hk0 (tein_lt h_1) iX1_prefers_3 wX1_prefers_29 dX1_prefers_6 ?_
  refine lv_istore_n (lv' := [(3, .int (S k0 (2 + 10 * x1.toNatClampNeg + 8))), (0, .ref (ad (20 * k0))), (1, .int x1), (2, .int x2)]) hx hb dX1_prefers_9 rfl hl (by decide) rfl (fun ls hl => ?_)
  refine lv_aload_n hx hb dX1_prefers_10 rfl (lv_at hl 1 rfl) ?_
  refine lv_iload_n hx hb dX1_prefers_11 rfl (lv_at hl 0 rfl) ?_
  obtain ⟨r_2, hq_3, hf⟩ := bd1_some hf
  refine kVi (id := (20 * k0)) (As := [.int (S k0 (2 + 10 * x1.toNatClampNeg + 8))]) (rest := []) X hR hS (zcX1_has l D cy ad ba O S k0 (S k0 (2 + 10 * x1.toNatClampNeg + 8)) hk0 _ hq_3) (cwV 1 X.2.2.2.2.2.1 gX1_prefers_X1_has rfl rfl rfl kdX1_has ⟨(Nat.le_of_ble_eq_true rfl), (Nat.le_of_ble_eq_true rfl)⟩) (te_idc hk0) (teE_circ cy ad O S hk0) rfl rfl rfl hl.1 (Nat.le_of_ble_eq_true rfl) ⟨(Nat.le_of_ble_eq_true rfl), (Nat.le_of_ble_eq_true rfl)⟩ dX1_prefers_12 (fun H locs hR hS => ?_)
  refine lv_if_eq (tgt := 33) hx hb dX1_prefers_15 (by decide) (fun c_4 => ?_) (fun c_4 => ?_)
  · replace hf := ite_t c_4 hf
    refine lv_iconst (v := (1 : Int32)) hx hb dX1_prefers_33 (by decide) ?_
    refine lv_goto (tgt := 38) hx hb dX1_prefers_34 (by decide) ?_
    exact eZ X hR hS (by decide) (Option.some.inj hf) rfl dX1_prefers_38
  · replace hf := ite_f c_4 hf
    refine lv_aload_n hx hb dX1_prefers_18 rfl (lv_at hl 1 rfl) ?_
    refine lv_iload_n hx hb dX1_prefers_19 rfl (lv_at hl 2 rfl) ?_
    refine lv_iload_n hx hb dX1_prefers_20 rfl (lv_at hl 0 rfl) ?_
    obtain ⟨r_5, hq_6, hf⟩ := bd1_some hf
    refine kVi (id := (20 * k0)) (As := [.int x1, .int (S k0 (2 + 10 * x1.toNatClampNeg + 8))]) (rest := []) X hR hS (zcX1_score l D cy ad ba O S k0 x1 (S k0 (2 + 10 * x1.toNatClampNeg + 8)) hk0 _ hq_6) (cwV 2 X.2.2.2.2.2.1 gX1_prefers_X1_score rfl rfl rfl kdX1_score ⟨(Nat.le_of_ble_eq_true rfl), (Nat.le_of_ble_eq_true rfl)⟩) (te_idc hk0) (teE_circ cy ad O S hk0) rfl rfl rfl hl.1 (Nat.le_of_ble_eq_true rfl) ⟨(Nat.le_of_ble_eq_true rfl), (Nat.le_of_ble_eq_true rfl)⟩ dX1_prefers_21 (fun H locs hR hS => ?_)
    refine lv_aload_n hx hb dX1_prefers_24 rfl (lv_at hl 1 rfl) ?_
    refine lv_iload_n hx hb dX1_prefers_25 rfl (lv_at hl 2 rfl) ?_
    refine lv_iload_n hx hb dX1_prefers_26 rfl (lv_at hl 3 rfl) ?_
    obtain ⟨r_7, hq_8, hf⟩ := bd1_some hf
    refine kVi (id := (20 * k0)) (As := [.int x1, .int x2]) (rest := [.int r_5]) X hR hS (zcX1_score l D cy ad ba O S k0 x1 x2 hk0 _ hq_8) (cwV 2 X.2.2.2.2.2.1 gX1_prefers_X1_score rfl rfl rfl kdX1_score ⟨(Nat.le_of_ble_eq_true rfl), (Nat.le_of_ble_eq_true rfl)⟩) (te_idc hk0) (teE_circ cy ad O S hk0) rfl rfl rfl hl.1 (Nat.le_of_ble_eq_true rfl) ⟨(Nat.le_of_ble_eq_true rfl), (Nat.le_of_ble_eq_true rfl)⟩ dX1_prefers_27 (fun H locs hR hS => ?_)
    refine lv_icmp_ge (tgt := 37) hx hb dX1_prefers_30 (by decide) (fun c_9 => ?_) (fun c_9 => ?_)
    · replace hf := ite_t c_9 hf
      refine lv_iconst (v := (0 : Int32)) hx hb dX1_prefers_37 (by decide) ?_
      exact eZ X hR hS (by decide) (Option.some.inj hf) rfl dX1_prefers_38
    · replace hf := ite_f c_9 hf
      refine lv_iconst (v := (1 : Int32)) hx hb dX1_prefers_33 (by decide) ?_
      refine lv_goto (tgt := 38) hx hb dX1_prefers_34 (by decide) ?_
      exact eZ X hR hS (by decide) (Option.some.inj hf) rfl dX1_prefers_38
theorem zcX1_prefers (l : Launch) (D : va_G) (cy : Nat → ClassId) (ad : Nat → Nat) (ba : Nat → Prop) (O : Int64) (S : teS) (k0 : Nat) (x1 : Int32) (x2 : Int32) (hk0 : k0 < 18) (res : Int32) (hf : fX1_prefers k0 x1 x2 S = some res) : cI l yX1_prefers wsX1_prefers rmX1_prefers D cy ad ba O S [.ref (ad (20 * k0)), .int x1, .int x2] res S :=
  te_of (by decide +kernel) rfl (Nat.le_of_ble_eq_true rfl) (fun p e s m below meth c ls X hR hS hl => bX1_prefers_0 (S := S) (k0 := k0) (x1 := x1) (x2 := x2) hk0 X _ _ _ hR hS hl hf)
abbrev rmX1_block : Room := { frames := 3, cells := 0, slots := 0, locals := 69 }
theorem kdX1_block : yX1_block.cls = RX1 ∧ yX1_block.cls ≠ "java/lang/invoke/MethodHandle" ∧ yX1_block.cls ≠ "java/lang/invoke/VarHandle" ∧ (parseMethodDescriptor yX1_block.desc).map (fun d => d.parameters.length) = some 2 := by decide +kernel
theorem wX1_block_11 : Cond.fieldLink RX1 11 "TandemExchange$Circle" "members" "[LTandemExchange$Member;" ∈ wsX1_block := by decide +kernel
theorem iX1_block_1 : ∀ w ∈ wsX10, w ∈ wsX1_block := by decide +kernel
theorem wX1_block_29 : Cond.fieldLink RX1 29 "TandemExchange$Member" "partner" "I" ∈ wsX1_block := by decide +kernel
theorem iX1_block_3 : ∀ w ∈ wsX30, w ∈ wsX1_block := by decide +kernel
set_option maxRecDepth 100000 in
set_option maxHeartbeats 4000000 in
theorem bX1_block_0 {p : Program} {l : Launch} {e : Env} {s : State} {m : MethodId} {args : Array Value} {below : List Frame} {meth : Method} {c : Code} {D : va_G} {cy : Nat → ClassId} {ad : Nat → Nat} {ba : Nat → Prop} {O : Int64} {S : teS}  {k0 : Nat} {x1 : Int32} {x2 : Int32} {res : Int32} (hk0 : k0 < 18) (X : teC wsX1_block RX1 cX1_block 3 (some .boolean) D cy ba p s m args meth c) (H : Heap) (locs : List Loc) (ls : Array Slot) (hR : teR D cy ad ba O S H) (hS : va_S (teA ba) s.heap H locs) (hl : lv_has ls 3 [(0, .ref (ad (20 * k0))), (1, .int x1), (2, .int x2)]) (hf : fX1_block k0 x1 x2 S = some res) : W p l e (headSpec wsX1_block rmX1_block).room s m args below meth c H locs 0 0 (MQ below (va_Qi (fun a (u : teS) => a = res ∧ u = S) (fun u t => teR D cy ad ba O u t.heap) (teA ba)) args s 0 0 (teA ba)) (F0 m 0 ls []) := by
  have hx := X.1
  have hb := X.2.1
  have hown := X.2.2.2.2.1
  unfold fX1_block at hf
  refine lv_aload_n hx hb dX1_block_0 rfl (lv_at hl 0 rfl) ?_
  refine rg_1_0 X hR hk0 iX1_block_1 wX1_block_11 dX1_block_1 ?_
  refine lv_iload_n hx hb dX1_block_4 rfl (lv_at hl 1 rfl) ?_
  obtain ⟨h_1, hf⟩ := chk_some hf
  refine ra_mem X hR hk0 h_1 dX1_block_5 ?_
  refine rg_3_5 X hR hk0 (tein_lt h_1) iX1_block_3 wX1_block_29 dX1_block_6 ?_
  refine lv_iload_n hx hb dX1_block_9 rfl (lv_at hl 2 rfl) ?_
  refine lv_icmp_eq (tgt := 44) hx hb dX1_block_10 (by decide) (fun c_2 => ?_) (fun c_2 => ?_)
  · replace hf := ite_t c_2 hf
    refine lv_iconst (v := (0 : Int32)) hx hb dX1_block_44 (by decide) ?_
    exact eZ X hR hS (by decide) (Option.some.inj hf) rfl dX1_block_45
  · replace hf := ite_f c_2 hf
    refine lv_aload_n hx hb dX1_block_13 rfl (lv_at hl 0 rfl) ?_
    refine lv_iload_n hx hb dX1_block_14 rfl (lv_at hl 1 rfl) ?_
    refine lv_iload_n hx hb dX1_block_15 rfl (lv_at hl 2 rfl) ?_
    obtain ⟨r_3, hq_4, hf⟩ := bd1_some hf
    refine kVi (id := (20 * k0)) (As := [.int x1, .int x2]) (rest := []) X hR hS (zcX1_fit l D cy ad ba O S k0 x1 x2 hk0 _ hq_4) (cwV 2 X.2.2.2.2.2.1 gX1_block_X1_fit rfl rfl rfl kdX1_fit ⟨(Nat.le_of_ble_eq_true rfl), (Nat.le_of_ble_eq_true rfl)⟩) (te_idc hk0) (teE_circ cy ad O S hk0) rfl rfl rfl hl.1 (Nat.le_of_ble_eq_true rfl) ⟨(Nat.le_of_ble_eq_true rfl), (Nat.le_of_ble_eq_true rfl)⟩ dX1_block_16 (fun H locs hR hS => ?_)
    refine lv_if_eq (tgt := 44) hx hb dX1_block_19 (by decide) (fun c_5 => ?_) (fun c_5 => ?_)
    · replace hf := ite_t c_5 hf
      refine lv_iconst (v := (0 : Int32)) hx hb dX1_block_44 (by decide) ?_
      exact eZ X hR hS (by decide) (Option.some.inj hf) rfl dX1_block_45
    · replace hf := ite_f c_5 hf
      refine lv_aload_n hx hb dX1_block_22 rfl (lv_at hl 0 rfl) ?_
      refine lv_iload_n hx hb dX1_block_23 rfl (lv_at hl 1 rfl) ?_
      refine lv_iload_n hx hb dX1_block_24 rfl (lv_at hl 2 rfl) ?_
      obtain ⟨r_6, hq_7, hf⟩ := bd1_some hf
      refine kVi (id := (20 * k0)) (As := [.int x1, .int x2]) (rest := []) X hR hS (zcX1_prefers l D cy ad ba O S k0 x1 x2 hk0 _ hq_7) (cwV 2 X.2.2.2.2.2.1 gX1_block_X1_prefers rfl rfl rfl kdX1_prefers ⟨(Nat.le_of_ble_eq_true rfl), (Nat.le_of_ble_eq_true rfl)⟩) (te_idc hk0) (teE_circ cy ad O S hk0) rfl rfl rfl hl.1 (Nat.le_of_ble_eq_true rfl) ⟨(Nat.le_of_ble_eq_true rfl), (Nat.le_of_ble_eq_true rfl)⟩ dX1_block_25 (fun H locs hR hS => ?_)
      refine lv_if_eq (tgt := 44) hx hb dX1_block_28 (by decide) (fun c_8 => ?_) (fun c_8 => ?_)
      · replace hf := ite_t c_8 hf
        refine lv_iconst (v := (0 : Int32)) hx hb dX1_block_44 (by decide) ?_
        exact eZ X hR hS (by decide) (Option.some.inj hf) rfl dX1_block_45
      · replace hf := ite_f c_8 hf
        refine lv_aload_n hx hb dX1_block_31 rfl (lv_at hl 0 rfl) ?_
        refine lv_iload_n hx hb dX1_block_32 rfl (lv_at hl 2 rfl) ?_
        refine lv_iload_n hx hb dX1_block_33 rfl (lv_at hl 1 rfl) ?_
        obtain ⟨r_9, hq_10, hf⟩ := bd1_some hf
        refine kVi (id := (20 * k0)) (As := [.int x2, .int x1]) (rest := []) X hR hS (zcX1_prefers l D cy ad ba O S k0 x2 x1 hk0 _ hq_10) (cwV 2 X.2.2.2.2.2.1 gX1_block_X1_prefers rfl rfl rfl kdX1_prefers ⟨(Nat.le_of_ble_eq_true rfl), (Nat.le_of_ble_eq_true rfl)⟩) (te_idc hk0) (teE_circ cy ad O S hk0) rfl rfl rfl hl.1 (Nat.le_of_ble_eq_true rfl) ⟨(Nat.le_of_ble_eq_true rfl), (Nat.le_of_ble_eq_true rfl)⟩ dX1_block_34 (fun H locs hR hS => ?_)
        refine lv_if_eq (tgt := 44) hx hb dX1_block_37 (by decide) (fun c_11 => ?_) (fun c_11 => ?_)
        · replace hf := ite_t c_11 hf
          refine lv_iconst (v := (0 : Int32)) hx hb dX1_block_44 (by decide) ?_
          exact eZ X hR hS (by decide) (Option.some.inj hf) rfl dX1_block_45
        · replace hf := ite_f c_11 hf
          refine lv_iconst (v := (1 : Int32)) hx hb dX1_block_40 (by decide) ?_
          refine lv_goto (tgt := 45) hx hb dX1_block_41 (by decide) ?_
          exact eZ X hR hS (by decide) (Option.some.inj hf) rfl dX1_block_45
theorem zcX1_block (l : Launch) (D : va_G) (cy : Nat → ClassId) (ad : Nat → Nat) (ba : Nat → Prop) (O : Int64) (S : teS) (k0 : Nat) (x1 : Int32) (x2 : Int32) (hk0 : k0 < 18) (res : Int32) (hf : fX1_block k0 x1 x2 S = some res) : cI l yX1_block wsX1_block rmX1_block D cy ad ba O S [.ref (ad (20 * k0)), .int x1, .int x2] res S :=
  te_of (by decide +kernel) rfl (Nat.le_of_ble_eq_true rfl) (fun p e s m below meth c ls X hR hS hl => bX1_block_0 (S := S) (k0 := k0) (x1 := x1) (x2 := x2) hk0 X _ _ _ hR hS hl hf)
abbrev rmX1_canBecomePartners : Room := { frames := 2, cells := 0, slots := 0, locals := 45 }
theorem kdX1_canBecomePartners : yX1_canBecomePartners.cls = RX1 ∧ yX1_canBecomePartners.cls ≠ "java/lang/invoke/MethodHandle" ∧ yX1_canBecomePartners.cls ≠ "java/lang/invoke/VarHandle" ∧ (parseMethodDescriptor yX1_canBecomePartners.desc).map (fun d => d.parameters.length) = some 2 := by decide +kernel
set_option maxRecDepth 100000 in
set_option maxHeartbeats 4000000 in
theorem bX1_canBecomePartners_0 {p : Program} {l : Launch} {e : Env} {s : State} {m : MethodId} {args : Array Value} {below : List Frame} {meth : Method} {c : Code} {D : va_G} {cy : Nat → ClassId} {ad : Nat → Nat} {ba : Nat → Prop} {O : Int64} {S : teS}  {k0 : Nat} {x1 : Int32} {x2 : Int32} {res : Int32} (hk0 : k0 < 18) (X : teC wsX1_canBecomePartners RX1 cX1_canBecomePartners 3 (some .boolean) D cy ba p s m args meth c) (H : Heap) (locs : List Loc) (ls : Array Slot) (hR : teR D cy ad ba O S H) (hS : va_S (teA ba) s.heap H locs) (hl : lv_has ls 3 [(0, .ref (ad (20 * k0))), (1, .int x1), (2, .int x2)]) (hf : fX1_canBecomePartners k0 x1 x2 S = some res) : W p l e (headSpec wsX1_canBecomePartners rmX1_canBecomePartners).room s m args below meth c H locs 0 0 (MQ below (va_Qi (fun a (u : teS) => a = res ∧ u = S) (fun u t => teR D cy ad ba O u t.heap) (teA ba)) args s 0 0 (teA ba)) (F0 m 0 ls []) := by
  have hx := X.1
  have hb := X.2.1
  have hown := X.2.2.2.2.1
  unfold fX1_canBecomePartners at hf
  refine lv_aload_n hx hb dX1_canBecomePartners_0 rfl (lv_at hl 0 rfl) ?_
  refine lv_iload_n hx hb dX1_canBecomePartners_1 rfl (lv_at hl 1 rfl) ?_
  obtain ⟨r_1, hq_2, hf⟩ := bd1_some hf
  refine kVi (id := (20 * k0)) (As := [.int x1]) (rest := []) X hR hS (zcX1_isFree l D cy ad ba O S k0 x1 hk0 _ hq_2) (cwV 1 X.2.2.2.2.2.1 gX1_canBecomePartners_X1_isFree rfl rfl rfl kdX1_isFree ⟨(Nat.le_of_ble_eq_true rfl), (Nat.le_of_ble_eq_true rfl)⟩) (te_idc hk0) (teE_circ cy ad O S hk0) rfl rfl rfl hl.1 (Nat.le_of_ble_eq_true rfl) ⟨(Nat.le_of_ble_eq_true rfl), (Nat.le_of_ble_eq_true rfl)⟩ dX1_canBecomePartners_2 (fun H locs hR hS => ?_)
  refine lv_if_eq (tgt := 29) hx hb dX1_canBecomePartners_5 (by decide) (fun c_3 => ?_) (fun c_3 => ?_)
  · replace hf := ite_t c_3 hf
    refine lv_iconst (v := (0 : Int32)) hx hb dX1_canBecomePartners_29 (by decide) ?_
    exact eZ X hR hS (by decide) (Option.some.inj hf) rfl dX1_canBecomePartners_30
  · replace hf := ite_f c_3 hf
    refine lv_aload_n hx hb dX1_canBecomePartners_8 rfl (lv_at hl 0 rfl) ?_
    refine lv_iload_n hx hb dX1_canBecomePartners_9 rfl (lv_at hl 2 rfl) ?_
    obtain ⟨r_4, hq_5, hf⟩ := bd1_some hf
    refine kVi (id := (20 * k0)) (As := [.int x2]) (rest := []) X hR hS (zcX1_isFree l D cy ad ba O S k0 x2 hk0 _ hq_5) (cwV 1 X.2.2.2.2.2.1 gX1_canBecomePartners_X1_isFree rfl rfl rfl kdX1_isFree ⟨(Nat.le_of_ble_eq_true rfl), (Nat.le_of_ble_eq_true rfl)⟩) (te_idc hk0) (teE_circ cy ad O S hk0) rfl rfl rfl hl.1 (Nat.le_of_ble_eq_true rfl) ⟨(Nat.le_of_ble_eq_true rfl), (Nat.le_of_ble_eq_true rfl)⟩ dX1_canBecomePartners_10 (fun H locs hR hS => ?_)
    refine lv_if_eq (tgt := 29) hx hb dX1_canBecomePartners_13 (by decide) (fun c_6 => ?_) (fun c_6 => ?_)
    · replace hf := ite_t c_6 hf
      refine lv_iconst (v := (0 : Int32)) hx hb dX1_canBecomePartners_29 (by decide) ?_
      exact eZ X hR hS (by decide) (Option.some.inj hf) rfl dX1_canBecomePartners_30
    · replace hf := ite_f c_6 hf
      refine lv_aload_n hx hb dX1_canBecomePartners_16 rfl (lv_at hl 0 rfl) ?_
      refine lv_iload_n hx hb dX1_canBecomePartners_17 rfl (lv_at hl 1 rfl) ?_
      refine lv_iload_n hx hb dX1_canBecomePartners_18 rfl (lv_at hl 2 rfl) ?_
      obtain ⟨r_7, hq_8, hf⟩ := bd1_some hf
      refine kVi (id := (20 * k0)) (As := [.int x1, .int x2]) (rest := []) X hR hS (zcX1_fit l D cy ad ba O S k0 x1 x2 hk0 _ hq_8) (cwV 2 X.2.2.2.2.2.1 gX1_canBecomePartners_X1_fit rfl rfl rfl kdX1_fit ⟨(Nat.le_of_ble_eq_true rfl), (Nat.le_of_ble_eq_true rfl)⟩) (te_idc hk0) (teE_circ cy ad O S hk0) rfl rfl rfl hl.1 (Nat.le_of_ble_eq_true rfl) ⟨(Nat.le_of_ble_eq_true rfl), (Nat.le_of_ble_eq_true rfl)⟩ dX1_canBecomePartners_19 (fun H locs hR hS => ?_)
      refine lv_if_eq (tgt := 29) hx hb dX1_canBecomePartners_22 (by decide) (fun c_9 => ?_) (fun c_9 => ?_)
      · replace hf := ite_t c_9 hf
        refine lv_iconst (v := (0 : Int32)) hx hb dX1_canBecomePartners_29 (by decide) ?_
        exact eZ X hR hS (by decide) (Option.some.inj hf) rfl dX1_canBecomePartners_30
      · replace hf := ite_f c_9 hf
        refine lv_iconst (v := (1 : Int32)) hx hb dX1_canBecomePartners_25 (by decide) ?_
        refine lv_goto (tgt := 30) hx hb dX1_canBecomePartners_26 (by decide) ?_
        exact eZ X hR hS (by decide) (Option.some.inj hf) rfl dX1_canBecomePartners_30
theorem zcX1_canBecomePartners (l : Launch) (D : va_G) (cy : Nat → ClassId) (ad : Nat → Nat) (ba : Nat → Prop) (O : Int64) (S : teS) (k0 : Nat) (x1 : Int32) (x2 : Int32) (hk0 : k0 < 18) (res : Int32) (hf : fX1_canBecomePartners k0 x1 x2 S = some res) : cI l yX1_canBecomePartners wsX1_canBecomePartners rmX1_canBecomePartners D cy ad ba O S [.ref (ad (20 * k0)), .int x1, .int x2] res S :=
  te_of (by decide +kernel) rfl (Nat.le_of_ble_eq_true rfl) (fun p e s m below meth c ls X hR hS hl => bX1_canBecomePartners_0 (S := S) (k0 := k0) (x1 := x1) (x2 := x2) hk0 X _ _ _ hR hS hl hf)
abbrev rmX1_countPairs : Room := { frames := 2, cells := 0, slots := 0, locals := 43 }
theorem kdX1_countPairs : yX1_countPairs.cls = RX1 ∧ yX1_countPairs.cls ≠ "java/lang/invoke/MethodHandle" ∧ yX1_countPairs.cls ≠ "java/lang/invoke/VarHandle" ∧ (parseMethodDescriptor yX1_countPairs.desc).map (fun d => d.parameters.length) = some 0 := by decide +kernel
theorem wX1_countPairs_18 : Cond.fieldLink RX1 18 "TandemExchange$Circle" "size" "I" ∈ wsX1_countPairs := by decide +kernel
theorem iX1_countPairs_1 : ∀ w ∈ wsX10, w ∈ wsX1_countPairs := fun _ h => List.mem_cons_of_mem _ (List.mem_append_left _ (List.mem_append_right _ h))
set_option maxRecDepth 100000 in
set_option maxHeartbeats 4000000 in
theorem bX1_countPairs_4 {p : Program} {l : Launch} {e : Env} {s : State} {m : MethodId} {args : Array Value} {below : List Frame} {meth : Method} {c : Code} {D : va_G} {cy : Nat → ClassId} {ad : Nat → Nat} {ba : Nat → Prop} {O : Int64} {S : teS}  {k0 : Nat} {res : Int32} (hk0 : k0 < 18) (X : teC wsX1_countPairs RX1 cX1_countPairs 3 (some .int) D cy ba p s m args meth c) : ∀ (n : Nat), ∀  (v1 : Int32) (v2 : Int32) (H : Heap) (locs : List Loc) (ls : Array Slot), teR D cy ad ba O S H → va_S (teA ba) s.heap H locs → lv_has ls 3 [(0, .ref (ad (20 * k0))), (1, .int v1), (2, .int v2)] → fX1_countPairs_4 k0 n S v1 v2 = some res → W p l e (headSpec wsX1_countPairs rmX1_countPairs).room s m args below meth c H locs 0 0 (MQ below (va_Qi (fun a (u : teS) => a = res ∧ u = S) (fun u t => teR D cy ad ba O u t.heap) (teA ba)) args s 0 0 (teA ba)) (F0 m 4 ls []) := by
  have hx := X.1
  have hb := X.2.1
  have hown := X.2.2.2.2.1
  intro n
  induction n with
  | zero =>
    intro v1 v2 H locs ls hR hS hl hf
    exact nomatch hf
  | succ n ih =>
    intro v1 v2 H locs ls hR hS hl hf
    unfold fX1_countPairs_4 at hf
    refine lv_iload_n hx hb dX1_countPairs_4 rfl (lv_at hl 2 rfl) ?_
    refine lv_aload_n hx hb dX1_countPairs_5 rfl (lv_at hl 0 rfl) ?_
    refine rg_1_1 X hR hk0 iX1_countPairs_1 wX1_countPairs_18 dX1_countPairs_6 ?_
    refine lv_icmp_ge (tgt := 32) hx hb dX1_countPairs_9 (by decide) (fun c_1 => ?_) (fun c_1 => ?_)
    · replace hf := ite_t c_1 hf
      refine lv_iload_n hx hb dX1_countPairs_32 rfl (lv_at hl 1 rfl) ?_
      exact eI X hR hS (Option.some.inj hf) rfl dX1_countPairs_33
    · replace hf := ite_f c_1 hf
      refine lv_aload_n hx hb dX1_countPairs_12 rfl (lv_at hl 0 rfl) ?_
      refine lv_iload_n hx hb dX1_countPairs_13 rfl (lv_at hl 2 rfl) ?_
      obtain ⟨r_2, hq_3, hf⟩ := bd1_some hf
      refine kVi (id := (20 * k0)) (As := [.int v2]) (rest := []) X hR hS (zcX1_greaterPartner l D cy ad ba O S k0 v2 hk0 _ hq_3) (cwV 1 X.2.2.2.2.2.1 gX1_countPairs_X1_greaterPartner rfl rfl rfl kdX1_greaterPartner ⟨(Nat.le_of_ble_eq_true rfl), (Nat.le_of_ble_eq_true rfl)⟩) (te_idc hk0) (teE_circ cy ad O S hk0) rfl rfl rfl hl.1 (Nat.le_of_ble_eq_true rfl) ⟨(Nat.le_of_ble_eq_true rfl), (Nat.le_of_ble_eq_true rfl)⟩ dX1_countPairs_14 (fun H locs hR hS => ?_)
      refine lv_sipush (v := (-9999 : Int32)) hx hb dX1_countPairs_17 (by decide) ?_
      refine lv_icmp_eq (tgt := 26) hx hb dX1_countPairs_20 (by decide) (fun c_4 => ?_) (fun c_4 => ?_)
      · replace hf := ite_t c_4 hf
        refine lv_iinc (v := (v2 + (1 : Int32))) (lv' := [(2, .int (v2 + (1 : Int32))), (0, .ref (ad (20 * k0))), (1, .int v1)]) hx hb dX1_countPairs_26 hl (k := 2) rfl rfl (by decide) rfl (fun ls hl => ?_)
        refine lv_goto (tgt := 4) hx hb dX1_countPairs_29 (by decide) ?_
        exact ih (v1) ((v2 + (1 : Int32))) _ _ _ hR hS (lv_sub hl [1, 2, 0] rfl) hf
      · replace hf := ite_f c_4 hf
        refine lv_iinc (v := (v1 + (1 : Int32))) (lv' := [(1, .int (v1 + (1 : Int32))), (0, .ref (ad (20 * k0))), (2, .int v2)]) hx hb dX1_countPairs_23 hl (k := 1) rfl rfl (by decide) rfl (fun ls hl => ?_)
        refine lv_iinc (v := (v2 + (1 : Int32))) (lv' := [(2, .int (v2 + (1 : Int32))), (1, .int (v1 + (1 : Int32))), (0, .ref (ad (20 * k0)))]) hx hb dX1_countPairs_26 hl (k := 2) rfl rfl (by decide) rfl (fun ls hl => ?_)
        refine lv_goto (tgt := 4) hx hb dX1_countPairs_29 (by decide) ?_
        exact ih ((v1 + (1 : Int32))) ((v2 + (1 : Int32))) _ _ _ hR hS (lv_sub hl [2, 1, 0] rfl) hf
set_option maxRecDepth 100000 in
set_option maxHeartbeats 4000000 in
theorem bX1_countPairs_0 {p : Program} {l : Launch} {e : Env} {s : State} {m : MethodId} {args : Array Value} {below : List Frame} {meth : Method} {c : Code} {D : va_G} {cy : Nat → ClassId} {ad : Nat → Nat} {ba : Nat → Prop} {O : Int64} {S : teS}  {k0 : Nat} {res : Int32} (hk0 : k0 < 18) (X : teC wsX1_countPairs RX1 cX1_countPairs 3 (some .int) D cy ba p s m args meth c) (H : Heap) (locs : List Loc) (ls : Array Slot) (hR : teR D cy ad ba O S H) (hS : va_S (teA ba) s.heap H locs) (hl : lv_has ls 3 [(0, .ref (ad (20 * k0)))]) (hf : fX1_countPairs k0 S = some res) : W p l e (headSpec wsX1_countPairs rmX1_countPairs).room s m args below meth c H locs 0 0 (MQ below (va_Qi (fun a (u : teS) => a = res ∧ u = S) (fun u t => teR D cy ad ba O u t.heap) (teA ba)) args s 0 0 (teA ba)) (F0 m 0 ls []) := by
  have hx := X.1
  have hb := X.2.1
  have hown := X.2.2.2.2.1
  unfold fX1_countPairs at hf
  refine lv_iconst (v := (0 : Int32)) hx hb dX1_countPairs_0 (by decide) ?_
  refine lv_istore_n (lv' := [(1, .int (0 : Int32)), (0, .ref (ad (20 * k0)))]) hx hb dX1_countPairs_1 rfl hl (by decide) rfl (fun ls hl => ?_)
  refine lv_iconst (v := (0 : Int32)) hx hb dX1_countPairs_2 (by decide) ?_
  refine lv_istore_n (lv' := [(2, .int (0 : Int32)), (1, .int (0 : Int32)), (0, .ref (ad (20 * k0)))]) hx hb dX1_countPairs_3 rfl hl (by decide) rfl (fun ls hl => ?_)
  exact bX1_countPairs_4 (S := S) (k0 := k0) hk0 X 2000 ((0 : Int32)) ((0 : Int32)) _ _ _ hR hS (lv_sub hl [2, 1, 0] rfl) hf
theorem zcX1_countPairs (l : Launch) (D : va_G) (cy : Nat → ClassId) (ad : Nat → Nat) (ba : Nat → Prop) (O : Int64) (S : teS) (k0 : Nat) (hk0 : k0 < 18) (res : Int32) (hf : fX1_countPairs k0 S = some res) : cI l yX1_countPairs wsX1_countPairs rmX1_countPairs D cy ad ba O S [.ref (ad (20 * k0))] res S :=
  te_of (by decide +kernel) rfl (Nat.le_of_ble_eq_true rfl) (fun p e s m below meth c ls X hR hS hl => bX1_countPairs_0 (S := S) (k0 := k0) hk0 X _ _ _ hR hS hl hf)
abbrev rmX1_sumOfValues : Room := { frames := 3, cells := 0, slots := 0, locals := 68 }
theorem kdX1_sumOfValues : yX1_sumOfValues.cls = RX1 ∧ yX1_sumOfValues.cls ≠ "java/lang/invoke/MethodHandle" ∧ yX1_sumOfValues.cls ≠ "java/lang/invoke/VarHandle" ∧ (parseMethodDescriptor yX1_sumOfValues.desc).map (fun d => d.parameters.length) = some 0 := by decide +kernel
theorem wX1_sumOfValues_18 : Cond.fieldLink RX1 18 "TandemExchange$Circle" "size" "I" ∈ wsX1_sumOfValues := by decide +kernel
theorem iX1_sumOfValues_1 : ∀ w ∈ wsX10, w ∈ wsX1_sumOfValues := by decide +kernel
set_option maxRecDepth 100000 in
set_option maxHeartbeats 4000000 in
theorem bX1_sumOfValues_4 {p : Program} {l : Launch} {e : Env} {s : State} {m : MethodId} {args : Array Value} {below : List Frame} {meth : Method} {c : Code} {D : va_G} {cy : Nat → ClassId} {ad : Nat → Nat} {ba : Nat → Prop} {O : Int64} {S : teS}  {k0 : Nat} {res : Int32} (hk0 : k0 < 18) (X : teC wsX1_sumOfValues RX1 cX1_sumOfValues 4 (some .int) D cy ba p s m args meth c) : ∀ (n : Nat), ∀  (v1 : Int32) (v2 : Int32) (H : Heap) (locs : List Loc) (ls : Array Slot), teR D cy ad ba O S H → va_S (teA ba) s.heap H locs → lv_has ls 4 [(0, .ref (ad (20 * k0))), (1, .int v1), (2, .int v2)] → fX1_sumOfValues_4 k0 n S v1 v2 = some res → W p l e (headSpec wsX1_sumOfValues rmX1_sumOfValues).room s m args below meth c H locs 0 0 (MQ below (va_Qi (fun a (u : teS) => a = res ∧ u = S) (fun u t => teR D cy ad ba O u t.heap) (teA ba)) args s 0 0 (teA ba)) (F0 m 4 ls []) := by
  have hx := X.1
  have hb := X.2.1
  have hown := X.2.2.2.2.1
  intro n
  induction n with
  | zero =>
    intro v1 v2 H locs ls hR hS hl hf
    exact nomatch hf
  | succ n ih =>
    intro v1 v2 H locs ls hR hS hl hf
    unfold fX1_sumOfValues_4 at hf
    refine lv_iload_n hx hb dX1_sumOfValues_4 rfl (lv_at hl 2 rfl) ?_
    refine lv_aload_n hx hb dX1_sumOfValues_5 rfl (lv_at hl 0 rfl) ?_
    refine rg_1_1 X hR hk0 iX1_sumOfValues_1 wX1_sumOfValues_18 dX1_sumOfValues_6 ?_
    refine lv_icmp_ge (tgt := 40) hx hb dX1_sumOfValues_9 (by decide) (fun c_1 => ?_) (fun c_1 => ?_)
    · replace hf := ite_t c_1 hf
      refine lv_iload_n hx hb dX1_sumOfValues_40 rfl (lv_at hl 1 rfl) ?_
      exact eI X hR hS (Option.some.inj hf) rfl dX1_sumOfValues_41
    · replace hf := ite_f c_1 hf
      refine lv_aload_n hx hb dX1_sumOfValues_12 rfl (lv_at hl 0 rfl) ?_
      refine lv_iload_n hx hb dX1_sumOfValues_13 rfl (lv_at hl 2 rfl) ?_
      obtain ⟨r_2, hq_3, hf⟩ := bd1_some hf
      refine kVi (id := (20 * k0)) (As := [.int v2]) (rest := []) X hR hS (zcX1_greaterPartner l D cy ad ba O S k0 v2 hk0 _ hq_3) (cwV 1 X.2.2.2.2.2.1 gX1_sumOfValues_X1_greaterPartner rfl rfl rfl kdX1_greaterPartner ⟨(Nat.le_of_ble_eq_true rfl), (Nat.le_of_ble_eq_true rfl)⟩) (te_idc hk0) (teE_circ cy ad O S hk0) rfl rfl rfl hl.1 (Nat.le_of_ble_eq_true rfl) ⟨(Nat.le_of_ble_eq_true rfl), (Nat.le_of_ble_eq_true rfl)⟩ dX1_sumOfValues_14 (fun H locs hR hS => ?_)
      refine lv_istore_n (lv' := [(3, .int r_2), (0, .ref (ad (20 * k0))), (1, .int v1), (2, .int v2)]) hx hb dX1_sumOfValues_17 rfl hl (by decide) rfl (fun ls hl => ?_)
      refine lv_iload_n hx hb dX1_sumOfValues_18 rfl (lv_at hl 0 rfl) ?_
      refine lv_sipush (v := (-9999 : Int32)) hx hb dX1_sumOfValues_19 (by decide) ?_
      refine lv_icmp_eq (tgt := 34) hx hb dX1_sumOfValues_22 (by decide) (fun c_4 => ?_) (fun c_4 => ?_)
      · replace hf := ite_t c_4 hf
        refine lv_iinc (v := (v2 + (1 : Int32))) (lv' := [(2, .int (v2 + (1 : Int32))), (3, .int r_2), (0, .ref (ad (20 * k0))), (1, .int v1)]) hx hb dX1_sumOfValues_34 hl (k := 3) rfl rfl (by decide) rfl (fun ls hl => ?_)
        refine lv_goto (tgt := 4) hx hb dX1_sumOfValues_37 (by decide) ?_
        exact ih (v1) ((v2 + (1 : Int32))) _ _ _ hR hS (lv_sub hl [2, 3, 0] rfl) hf
      · replace hf := ite_f c_4 hf
        refine lv_iload_n hx hb dX1_sumOfValues_25 rfl (lv_at hl 2 rfl) ?_
        refine lv_aload_n hx hb dX1_sumOfValues_26 rfl (lv_at hl 1 rfl) ?_
        refine lv_iload_n hx hb dX1_sumOfValues_27 rfl (lv_at hl 3 rfl) ?_
        refine lv_iload_n hx hb dX1_sumOfValues_28 rfl (lv_at hl 0 rfl) ?_
        obtain ⟨r_5, hq_6, hf⟩ := bd1_some hf
        refine kVi (id := (20 * k0)) (As := [.int v2, .int r_2]) (rest := [.int v1]) X hR hS (zcX1_value l D cy ad ba O S k0 v2 r_2 hk0 _ hq_6) (cwV 2 X.2.2.2.2.2.1 gX1_sumOfValues_X1_value rfl rfl rfl kdX1_value ⟨(Nat.le_of_ble_eq_true rfl), (Nat.le_of_ble_eq_true rfl)⟩) (te_idc hk0) (teE_circ cy ad O S hk0) rfl rfl rfl hl.1 (Nat.le_of_ble_eq_true rfl) ⟨(Nat.le_of_ble_eq_true rfl), (Nat.le_of_ble_eq_true rfl)⟩ dX1_sumOfValues_29 (fun H locs hR hS => ?_)
        refine lv_iadd hx hb dX1_sumOfValues_32 ?_
        refine lv_istore_n (lv' := [(1, .int (v1 + r_5)), (3, .int r_2), (0, .ref (ad (20 * k0))), (2, .int v2)]) hx hb dX1_sumOfValues_33 rfl hl (by decide) rfl (fun ls hl => ?_)
        refine lv_iinc (v := (v2 + (1 : Int32))) (lv' := [(2, .int (v2 + (1 : Int32))), (1, .int (v1 + r_5)), (3, .int r_2), (0, .ref (ad (20 * k0)))]) hx hb dX1_sumOfValues_34 hl (k := 3) rfl rfl (by decide) rfl (fun ls hl => ?_)
        refine lv_goto (tgt := 4) hx hb dX1_sumOfValues_37 (by decide) ?_
        exact ih ((v1 + r_5)) ((v2 + (1 : Int32))) _ _ _ hR hS (lv_sub hl [3, 1, 0] rfl) hf
set_option maxRecDepth 100000 in
set_option maxHeartbeats 4000000 in
theorem bX1_sumOfValues_0 {p : Program} {l : Launch} {e : Env} {s : State} {m : MethodId} {args : Array Value} {below : List Frame} {meth : Method} {c : Code} {D : va_G} {cy : Nat → ClassId} {ad : Nat → Nat} {ba : Nat → Prop} {O : Int64} {S : teS}  {k0 : Nat} {res : Int32} (hk0 : k0 < 18) (X : teC wsX1_sumOfValues RX1 cX1_sumOfValues 4 (some .int) D cy ba p s m args meth c) (H : Heap) (locs : List Loc) (ls : Array Slot) (hR : teR D cy ad ba O S H) (hS : va_S (teA ba) s.heap H locs) (hl : lv_has ls 4 [(0, .ref (ad (20 * k0)))]) (hf : fX1_sumOfValues k0 S = some res) : W p l e (headSpec wsX1_sumOfValues rmX1_sumOfValues).room s m args below meth c H locs 0 0 (MQ below (va_Qi (fun a (u : teS) => a = res ∧ u = S) (fun u t => teR D cy ad ba O u t.heap) (teA ba)) args s 0 0 (teA ba)) (F0 m 0 ls []) := by
  have hx := X.1
  have hb := X.2.1
  have hown := X.2.2.2.2.1
  unfold fX1_sumOfValues at hf
  refine lv_iconst (v := (0 : Int32)) hx hb dX1_sumOfValues_0 (by decide) ?_
  refine lv_istore_n (lv' := [(1, .int (0 : Int32)), (0, .ref (ad (20 * k0)))]) hx hb dX1_sumOfValues_1 rfl hl (by decide) rfl (fun ls hl => ?_)
  refine lv_iconst (v := (0 : Int32)) hx hb dX1_sumOfValues_2 (by decide) ?_
  refine lv_istore_n (lv' := [(2, .int (0 : Int32)), (1, .int (0 : Int32)), (0, .ref (ad (20 * k0)))]) hx hb dX1_sumOfValues_3 rfl hl (by decide) rfl (fun ls hl => ?_)
  exact bX1_sumOfValues_4 (S := S) (k0 := k0) hk0 X 2000 ((0 : Int32)) ((0 : Int32)) _ _ _ hR hS (lv_sub hl [2, 1, 0] rfl) hf
theorem zcX1_sumOfValues (l : Launch) (D : va_G) (cy : Nat → ClassId) (ad : Nat → Nat) (ba : Nat → Prop) (O : Int64) (S : teS) (k0 : Nat) (hk0 : k0 < 18) (res : Int32) (hf : fX1_sumOfValues k0 S = some res) : cI l yX1_sumOfValues wsX1_sumOfValues rmX1_sumOfValues D cy ad ba O S [.ref (ad (20 * k0))] res S :=
  te_of (by decide +kernel) rfl (Nat.le_of_ble_eq_true rfl) (fun p e s m below meth c ls X hR hS hl => bX1_sumOfValues_0 (S := S) (k0 := k0) hk0 X _ _ _ hR hS hl hf)
abbrev rmX1_sumOfCredits : Room := { frames := 0, cells := 0, slots := 0, locals := 0 }
theorem kdX1_sumOfCredits : yX1_sumOfCredits.cls = RX1 ∧ yX1_sumOfCredits.cls ≠ "java/lang/invoke/MethodHandle" ∧ yX1_sumOfCredits.cls ≠ "java/lang/invoke/VarHandle" ∧ (parseMethodDescriptor yX1_sumOfCredits.desc).map (fun d => d.parameters.length) = some 0 := by decide +kernel
theorem wX1_sumOfCredits_18 : Cond.fieldLink RX1 18 "TandemExchange$Circle" "size" "I" ∈ wsX1_sumOfCredits := by decide +kernel
theorem iX1_sumOfCredits_1 : ∀ w ∈ wsX10, w ∈ wsX1_sumOfCredits := fun _ h => List.mem_cons_of_mem _ (List.mem_append_left _ (List.mem_append_right _ h))
theorem wX1_sumOfCredits_11 : Cond.fieldLink RX1 11 "TandemExchange$Circle" "members" "[LTandemExchange$Member;" ∈ wsX1_sumOfCredits := by decide +kernel
theorem wX1_sumOfCredits_46 : Cond.fieldLink RX1 46 "TandemExchange$Member" "credits" "I" ∈ wsX1_sumOfCredits := by decide +kernel
theorem iX1_sumOfCredits_3 : ∀ w ∈ wsX30, w ∈ wsX1_sumOfCredits := fun _ h => List.mem_cons_of_mem _ (List.mem_append_right _ h)
set_option maxRecDepth 100000 in
set_option maxHeartbeats 4000000 in
theorem bX1_sumOfCredits_4 {p : Program} {l : Launch} {e : Env} {s : State} {m : MethodId} {args : Array Value} {below : List Frame} {meth : Method} {c : Code} {D : va_G} {cy : Nat → ClassId} {ad : Nat → Nat} {ba : Nat → Prop} {O : Int64} {S : teS}  {k0 : Nat} {res : Int32} (hk0 : k0 < 18) (X : teC wsX1_sumOfCredits RX1 cX1_sumOfCredits 3 (some .int) D cy ba p s m args meth c) : ∀ (n : Nat), ∀  (v1 : Int32) (v2 : Int32) (H : Heap) (locs : List Loc) (ls : Array Slot), teR D cy ad ba O S H → va_S (teA ba) s.heap H locs → lv_has ls 3 [(0, .ref (ad (20 * k0))), (1, .int v1), (2, .int v2)] → fX1_sumOfCredits_4 k0 n S v1 v2 = some res → W p l e (headSpec wsX1_sumOfCredits rmX1_sumOfCredits).room s m args below meth c H locs 0 0 (MQ below (va_Qi (fun a (u : teS) => a = res ∧ u = S) (fun u t => teR D cy ad ba O u t.heap) (teA ba)) args s 0 0 (teA ba)) (F0 m 4 ls []) := by
  have hx := X.1
  have hb := X.2.1
  have hown := X.2.2.2.2.1
  intro n
  induction n with
  | zero =>
    intro v1 v2 H locs ls hR hS hl hf
    exact nomatch hf
  | succ n ih =>
    intro v1 v2 H locs ls hR hS hl hf
    unfold fX1_sumOfCredits_4 at hf
    refine lv_iload_n hx hb dX1_sumOfCredits_4 rfl (lv_at hl 2 rfl) ?_
    refine lv_aload_n hx hb dX1_sumOfCredits_5 rfl (lv_at hl 0 rfl) ?_
    refine rg_1_1 X hR hk0 iX1_sumOfCredits_1 wX1_sumOfCredits_18 dX1_sumOfCredits_6 ?_
    refine lv_icmp_ge (tgt := 30) hx hb dX1_sumOfCredits_9 (by decide) (fun c_1 => ?_) (fun c_1 => ?_)
    · replace hf := ite_t c_1 hf
      refine lv_iload_n hx hb dX1_sumOfCredits_30 rfl (lv_at hl 1 rfl) ?_
      exact eI X hR hS (Option.some.inj hf) rfl dX1_sumOfCredits_31
    · replace hf := ite_f c_1 hf
      refine lv_iload_n hx hb dX1_sumOfCredits_12 rfl (lv_at hl 1 rfl) ?_
      refine lv_aload_n hx hb dX1_sumOfCredits_13 rfl (lv_at hl 0 rfl) ?_
      refine rg_1_0 X hR hk0 iX1_sumOfCredits_1 wX1_sumOfCredits_11 dX1_sumOfCredits_14 ?_
      refine lv_iload_n hx hb dX1_sumOfCredits_17 rfl (lv_at hl 2 rfl) ?_
      obtain ⟨h_2, hf⟩ := chk_some hf
      refine ra_mem X hR hk0 h_2 dX1_sumOfCredits_18 ?_
      refine rg_3_3 X hR hk0 (tein_lt h_2) iX1_sumOfCredits_3 wX1_sumOfCredits_46 dX1_sumOfCredits_19 ?_
      refine lv_iadd hx hb dX1_sumOfCredits_22 ?_
      refine lv_istore_n (lv' := [(1, .int (v1 + (S k0 (2 + 10 * v2.toNatClampNeg + 6)))), (0, .ref (ad (20 * k0))), (2, .int v2)]) hx hb dX1_sumOfCredits_23 rfl hl (by decide) rfl (fun ls hl => ?_)
      refine lv_iinc (v := (v2 + (1 : Int32))) (lv' := [(2, .int (v2 + (1 : Int32))), (1, .int (v1 + (S k0 (2 + 10 * v2.toNatClampNeg + 6)))), (0, .ref (ad (20 * k0)))]) hx hb dX1_sumOfCredits_24 hl (k := 2) rfl rfl (by decide) rfl (fun ls hl => ?_)
      refine lv_goto (tgt := 4) hx hb dX1_sumOfCredits_27 (by decide) ?_
      exact ih ((v1 + (S k0 (2 + 10 * v2.toNatClampNeg + 6)))) ((v2 + (1 : Int32))) _ _ _ hR hS (lv_sub hl [2, 1, 0] rfl) hf
set_option maxRecDepth 100000 in
set_option maxHeartbeats 4000000 in
theorem bX1_sumOfCredits_0 {p : Program} {l : Launch} {e : Env} {s : State} {m : MethodId} {args : Array Value} {below : List Frame} {meth : Method} {c : Code} {D : va_G} {cy : Nat → ClassId} {ad : Nat → Nat} {ba : Nat → Prop} {O : Int64} {S : teS}  {k0 : Nat} {res : Int32} (hk0 : k0 < 18) (X : teC wsX1_sumOfCredits RX1 cX1_sumOfCredits 3 (some .int) D cy ba p s m args meth c) (H : Heap) (locs : List Loc) (ls : Array Slot) (hR : teR D cy ad ba O S H) (hS : va_S (teA ba) s.heap H locs) (hl : lv_has ls 3 [(0, .ref (ad (20 * k0)))]) (hf : fX1_sumOfCredits k0 S = some res) : W p l e (headSpec wsX1_sumOfCredits rmX1_sumOfCredits).room s m args below meth c H locs 0 0 (MQ below (va_Qi (fun a (u : teS) => a = res ∧ u = S) (fun u t => teR D cy ad ba O u t.heap) (teA ba)) args s 0 0 (teA ba)) (F0 m 0 ls []) := by
  have hx := X.1
  have hb := X.2.1
  have hown := X.2.2.2.2.1
  unfold fX1_sumOfCredits at hf
  refine lv_iconst (v := (0 : Int32)) hx hb dX1_sumOfCredits_0 (by decide) ?_
  refine lv_istore_n (lv' := [(1, .int (0 : Int32)), (0, .ref (ad (20 * k0)))]) hx hb dX1_sumOfCredits_1 rfl hl (by decide) rfl (fun ls hl => ?_)
  refine lv_iconst (v := (0 : Int32)) hx hb dX1_sumOfCredits_2 (by decide) ?_
  refine lv_istore_n (lv' := [(2, .int (0 : Int32)), (1, .int (0 : Int32)), (0, .ref (ad (20 * k0)))]) hx hb dX1_sumOfCredits_3 rfl hl (by decide) rfl (fun ls hl => ?_)
  exact bX1_sumOfCredits_4 (S := S) (k0 := k0) hk0 X 2000 ((0 : Int32)) ((0 : Int32)) _ _ _ hR hS (lv_sub hl [2, 1, 0] rfl) hf
theorem zcX1_sumOfCredits (l : Launch) (D : va_G) (cy : Nat → ClassId) (ad : Nat → Nat) (ba : Nat → Prop) (O : Int64) (S : teS) (k0 : Nat) (hk0 : k0 < 18) (res : Int32) (hf : fX1_sumOfCredits k0 S = some res) : cI l yX1_sumOfCredits wsX1_sumOfCredits rmX1_sumOfCredits D cy ad ba O S [.ref (ad (20 * k0))] res S :=
  te_of (by decide +kernel) rfl (Nat.le_of_ble_eq_true rfl) (fun p e s m below meth c ls X hR hS hl => bX1_sumOfCredits_0 (S := S) (k0 := k0) hk0 X _ _ _ hR hS hl hf)
abbrev rmX1_countBlocking : Room := { frames := 4, cells := 0, slots := 0, locals := 91 }
theorem kdX1_countBlocking : yX1_countBlocking.cls = RX1 ∧ yX1_countBlocking.cls ≠ "java/lang/invoke/MethodHandle" ∧ yX1_countBlocking.cls ≠ "java/lang/invoke/VarHandle" ∧ (parseMethodDescriptor yX1_countBlocking.desc).map (fun d => d.parameters.length) = some 0 := by decide +kernel
theorem wX1_countBlocking_18 : Cond.fieldLink RX1 18 "TandemExchange$Circle" "size" "I" ∈ wsX1_countBlocking := by decide +kernel
theorem iX1_countBlocking_1 : ∀ w ∈ wsX10, w ∈ wsX1_countBlocking := by decide +kernel
set_option maxRecDepth 100000 in
set_option maxHeartbeats 4000000 in
theorem bX1_countBlocking_16 {p : Program} {l : Launch} {e : Env} {s : State} {m : MethodId} {args : Array Value} {below : List Frame} {meth : Method} {c : Code} {D : va_G} {cy : Nat → ClassId} {ad : Nat → Nat} {ba : Nat → Prop} {O : Int64} {S : teS}  {k0 : Nat} {res : Int32} (hk0 : k0 < 18) (X : teC wsX1_countBlocking RX1 cX1_countBlocking 4 (some .int) D cy ba p s m args meth c) {q4 : teS → Int32 → Int32 → Option Int32} (hq4 : ∀  (v1 : Int32) (v2 : Int32) (H : Heap) (locs : List Loc) (ls : Array Slot), teR D cy ad ba O S H → va_S (teA ba) s.heap H locs → lv_has ls 4 [(0, .ref (ad (20 * k0))), (1, .int v1), (2, .int v2)] → q4 S v1 v2 = some res → W p l e (headSpec wsX1_countBlocking rmX1_countBlocking).room s m args below meth c H locs 0 0 (MQ below (va_Qi (fun a (u : teS) => a = res ∧ u = S) (fun u t => teR D cy ad ba O u t.heap) (teA ba)) args s 0 0 (teA ba)) (F0 m 4 ls [])) : ∀ (n : Nat), ∀  (v1 : Int32) (v2 : Int32) (v3 : Int32) (H : Heap) (locs : List Loc) (ls : Array Slot), teR D cy ad ba O S H → va_S (teA ba) s.heap H locs → lv_has ls 4 [(0, .ref (ad (20 * k0))), (1, .int v1), (2, .int v2), (3, .int v3)] → fX1_countBlocking_16 k0 q4 n S v1 v2 v3 = some res → W p l e (headSpec wsX1_countBlocking rmX1_countBlocking).room s m args below meth c H locs 0 0 (MQ below (va_Qi (fun a (u : teS) => a = res ∧ u = S) (fun u t => teR D cy ad ba O u t.heap) (teA ba)) args s 0 0 (teA ba)) (F0 m 16 ls []) := by
  have hx := X.1
  have hb := X.2.1
  have hown := X.2.2.2.2.1
  intro n
  induction n with
  | zero =>
    intro v1 v2 v3 H locs ls hR hS hl hf
    exact nomatch hf
  | succ n ih =>
    intro v1 v2 v3 H locs ls hR hS hl hf
    unfold fX1_countBlocking_16 at hf
    refine lv_iload_n hx hb dX1_countBlocking_16 rfl (lv_at hl 3 rfl) ?_
    refine lv_aload_n hx hb dX1_countBlocking_17 rfl (lv_at hl 0 rfl) ?_
    refine rg_1_1 X hR hk0 iX1_countBlocking_1 wX1_countBlocking_18 dX1_countBlocking_18 ?_
    refine lv_icmp_ge (tgt := 42) hx hb dX1_countBlocking_21 (by decide) (fun c_2 => ?_) (fun c_2 => ?_)
    · replace hf := ite_t c_2 hf
      refine lv_iinc (v := (v2 + (1 : Int32))) (lv' := [(2, .int (v2 + (1 : Int32))), (0, .ref (ad (20 * k0))), (1, .int v1), (3, .int v3)]) hx hb dX1_countBlocking_42 hl (k := 2) rfl rfl (by decide) rfl (fun ls hl => ?_)
      refine lv_goto (tgt := 4) hx hb dX1_countBlocking_45 (by decide) ?_
      exact hq4 (v1) ((v2 + (1 : Int32))) _ _ _ hR hS (lv_sub hl [1, 2, 0] rfl) hf
    · replace hf := ite_f c_2 hf
      refine lv_aload_n hx hb dX1_countBlocking_24 rfl (lv_at hl 0 rfl) ?_
      refine lv_iload_n hx hb dX1_countBlocking_25 rfl (lv_at hl 2 rfl) ?_
      refine lv_iload_n hx hb dX1_countBlocking_26 rfl (lv_at hl 3 rfl) ?_
      obtain ⟨r_3, hq_4, hf⟩ := bd1_some hf
      refine kVi (id := (20 * k0)) (As := [.int v2, .int v3]) (rest := []) X hR hS (zcX1_block l D cy ad ba O S k0 v2 v3 hk0 _ hq_4) (cwV 2 X.2.2.2.2.2.1 gX1_countBlocking_X1_block rfl rfl rfl kdX1_block ⟨(Nat.le_of_ble_eq_true rfl), (Nat.le_of_ble_eq_true rfl)⟩) (te_idc hk0) (teE_circ cy ad O S hk0) rfl rfl rfl hl.1 (Nat.le_of_ble_eq_true rfl) ⟨(Nat.le_of_ble_eq_true rfl), (Nat.le_of_ble_eq_true rfl)⟩ dX1_countBlocking_27 (fun H locs hR hS => ?_)
      refine lv_if_eq (tgt := 36) hx hb dX1_countBlocking_30 (by decide) (fun c_5 => ?_) (fun c_5 => ?_)
      · replace hf := ite_t c_5 hf
        refine lv_iinc (v := (v3 + (1 : Int32))) (lv' := [(3, .int (v3 + (1 : Int32))), (0, .ref (ad (20 * k0))), (1, .int v1), (2, .int v2)]) hx hb dX1_countBlocking_36 hl (k := 3) rfl rfl (by decide) rfl (fun ls hl => ?_)
        refine lv_goto (tgt := 16) hx hb dX1_countBlocking_39 (by decide) ?_
        exact ih (v1) (v2) ((v3 + (1 : Int32))) _ _ _ hR hS (lv_sub hl [1, 2, 3, 0] rfl) hf
      · replace hf := ite_f c_5 hf
        refine lv_iinc (v := (v1 + (1 : Int32))) (lv' := [(1, .int (v1 + (1 : Int32))), (0, .ref (ad (20 * k0))), (2, .int v2), (3, .int v3)]) hx hb dX1_countBlocking_33 hl (k := 1) rfl rfl (by decide) rfl (fun ls hl => ?_)
        refine lv_iinc (v := (v3 + (1 : Int32))) (lv' := [(3, .int (v3 + (1 : Int32))), (1, .int (v1 + (1 : Int32))), (0, .ref (ad (20 * k0))), (2, .int v2)]) hx hb dX1_countBlocking_36 hl (k := 3) rfl rfl (by decide) rfl (fun ls hl => ?_)
        refine lv_goto (tgt := 16) hx hb dX1_countBlocking_39 (by decide) ?_
        exact ih ((v1 + (1 : Int32))) (v2) ((v3 + (1 : Int32))) _ _ _ hR hS (lv_sub hl [2, 1, 3, 0] rfl) hf
set_option maxRecDepth 100000 in
set_option maxHeartbeats 4000000 in
theorem bX1_countBlocking_4 {p : Program} {l : Launch} {e : Env} {s : State} {m : MethodId} {args : Array Value} {below : List Frame} {meth : Method} {c : Code} {D : va_G} {cy : Nat → ClassId} {ad : Nat → Nat} {ba : Nat → Prop} {O : Int64} {S : teS}  {k0 : Nat} {res : Int32} (hk0 : k0 < 18) (X : teC wsX1_countBlocking RX1 cX1_countBlocking 4 (some .int) D cy ba p s m args meth c) : ∀ (n : Nat), ∀  (v1 : Int32) (v2 : Int32) (H : Heap) (locs : List Loc) (ls : Array Slot), teR D cy ad ba O S H → va_S (teA ba) s.heap H locs → lv_has ls 4 [(0, .ref (ad (20 * k0))), (1, .int v1), (2, .int v2)] → fX1_countBlocking_4 k0 n S v1 v2 = some res → W p l e (headSpec wsX1_countBlocking rmX1_countBlocking).room s m args below meth c H locs 0 0 (MQ below (va_Qi (fun a (u : teS) => a = res ∧ u = S) (fun u t => teR D cy ad ba O u t.heap) (teA ba)) args s 0 0 (teA ba)) (F0 m 4 ls []) := by
  have hx := X.1
  have hb := X.2.1
  have hown := X.2.2.2.2.1
  intro n
  induction n with
  | zero =>
    intro v1 v2 H locs ls hR hS hl hf
    exact nomatch hf
  | succ n ih =>
    intro v1 v2 H locs ls hR hS hl hf
    unfold fX1_countBlocking_4 at hf
    refine lv_iload_n hx hb dX1_countBlocking_4 rfl (lv_at hl 2 rfl) ?_
    refine lv_aload_n hx hb dX1_countBlocking_5 rfl (lv_at hl 0 rfl) ?_
    refine rg_1_1 X hR hk0 iX1_countBlocking_1 wX1_countBlocking_18 dX1_countBlocking_6 ?_
    refine lv_icmp_ge (tgt := 48) hx hb dX1_countBlocking_9 (by decide) (fun c_1 => ?_) (fun c_1 => ?_)
    · replace hf := ite_t c_1 hf
      refine lv_iload_n hx hb dX1_countBlocking_48 rfl (lv_at hl 1 rfl) ?_
      exact eI X hR hS (Option.some.inj hf) rfl dX1_countBlocking_49
    · replace hf := ite_f c_1 hf
      refine lv_iload_n hx hb dX1_countBlocking_12 rfl (lv_at hl 2 rfl) ?_
      refine lv_iconst (v := (1 : Int32)) hx hb dX1_countBlocking_13 (by decide) ?_
      refine lv_iadd hx hb dX1_countBlocking_14 ?_
      refine lv_istore_n (lv' := [(3, .int (v2 + (1 : Int32))), (0, .ref (ad (20 * k0))), (1, .int v1), (2, .int v2)]) hx hb dX1_countBlocking_15 rfl hl (by decide) rfl (fun ls hl => ?_)
      exact bX1_countBlocking_16 (S := S) (k0 := k0) hk0 X ih 2000 (v1) (v2) ((v2 + (1 : Int32))) _ _ _ hR hS (lv_sub hl [1, 2, 3, 0] rfl) hf
set_option maxRecDepth 100000 in
set_option maxHeartbeats 4000000 in
theorem bX1_countBlocking_0 {p : Program} {l : Launch} {e : Env} {s : State} {m : MethodId} {args : Array Value} {below : List Frame} {meth : Method} {c : Code} {D : va_G} {cy : Nat → ClassId} {ad : Nat → Nat} {ba : Nat → Prop} {O : Int64} {S : teS}  {k0 : Nat} {res : Int32} (hk0 : k0 < 18) (X : teC wsX1_countBlocking RX1 cX1_countBlocking 4 (some .int) D cy ba p s m args meth c) (H : Heap) (locs : List Loc) (ls : Array Slot) (hR : teR D cy ad ba O S H) (hS : va_S (teA ba) s.heap H locs) (hl : lv_has ls 4 [(0, .ref (ad (20 * k0)))]) (hf : fX1_countBlocking k0 S = some res) : W p l e (headSpec wsX1_countBlocking rmX1_countBlocking).room s m args below meth c H locs 0 0 (MQ below (va_Qi (fun a (u : teS) => a = res ∧ u = S) (fun u t => teR D cy ad ba O u t.heap) (teA ba)) args s 0 0 (teA ba)) (F0 m 0 ls []) := by
  have hx := X.1
  have hb := X.2.1
  have hown := X.2.2.2.2.1
  unfold fX1_countBlocking at hf
  refine lv_iconst (v := (0 : Int32)) hx hb dX1_countBlocking_0 (by decide) ?_
  refine lv_istore_n (lv' := [(1, .int (0 : Int32)), (0, .ref (ad (20 * k0)))]) hx hb dX1_countBlocking_1 rfl hl (by decide) rfl (fun ls hl => ?_)
  refine lv_iconst (v := (0 : Int32)) hx hb dX1_countBlocking_2 (by decide) ?_
  refine lv_istore_n (lv' := [(2, .int (0 : Int32)), (1, .int (0 : Int32)), (0, .ref (ad (20 * k0)))]) hx hb dX1_countBlocking_3 rfl hl (by decide) rfl (fun ls hl => ?_)
  exact bX1_countBlocking_4 (S := S) (k0 := k0) hk0 X 2000 ((0 : Int32)) ((0 : Int32)) _ _ _ hR hS (lv_sub hl [2, 1, 0] rfl) hf
theorem zcX1_countBlocking (l : Launch) (D : va_G) (cy : Nat → ClassId) (ad : Nat → Nat) (ba : Nat → Prop) (O : Int64) (S : teS) (k0 : Nat) (hk0 : k0 < 18) (res : Int32) (hf : fX1_countBlocking k0 S = some res) : cI l yX1_countBlocking wsX1_countBlocking rmX1_countBlocking D cy ad ba O S [.ref (ad (20 * k0))] res S :=
  te_of (by decide +kernel) rfl (Nat.le_of_ble_eq_true rfl) (fun p e s m below meth c ls X hR hS hl => bX1_countBlocking_0 (S := S) (k0 := k0) hk0 X _ _ _ hR hS hl hf)
abbrev rmX1_countFitting : Room := { frames := 3, cells := 0, slots := 0, locals := 68 }
theorem kdX1_countFitting : yX1_countFitting.cls = RX1 ∧ yX1_countFitting.cls ≠ "java/lang/invoke/MethodHandle" ∧ yX1_countFitting.cls ≠ "java/lang/invoke/VarHandle" ∧ (parseMethodDescriptor yX1_countFitting.desc).map (fun d => d.parameters.length) = some 0 := by decide +kernel
theorem wX1_countFitting_18 : Cond.fieldLink RX1 18 "TandemExchange$Circle" "size" "I" ∈ wsX1_countFitting := by decide +kernel
theorem iX1_countFitting_1 : ∀ w ∈ wsX10, w ∈ wsX1_countFitting := fun _ h => List.mem_cons_of_mem _ (List.mem_append_left _ (List.mem_append_right _ h))
set_option maxRecDepth 100000 in
set_option maxHeartbeats 4000000 in
theorem bX1_countFitting_4 {p : Program} {l : Launch} {e : Env} {s : State} {m : MethodId} {args : Array Value} {below : List Frame} {meth : Method} {c : Code} {D : va_G} {cy : Nat → ClassId} {ad : Nat → Nat} {ba : Nat → Prop} {O : Int64} {S : teS}  {k0 : Nat} {res : Int32} (hk0 : k0 < 18) (X : teC wsX1_countFitting RX1 cX1_countFitting 3 (some .int) D cy ba p s m args meth c) : ∀ (n : Nat), ∀  (v1 : Int32) (v2 : Int32) (H : Heap) (locs : List Loc) (ls : Array Slot), teR D cy ad ba O S H → va_S (teA ba) s.heap H locs → lv_has ls 3 [(0, .ref (ad (20 * k0))), (1, .int v1), (2, .int v2)] → fX1_countFitting_4 k0 n S v1 v2 = some res → W p l e (headSpec wsX1_countFitting rmX1_countFitting).room s m args below meth c H locs 0 0 (MQ below (va_Qi (fun a (u : teS) => a = res ∧ u = S) (fun u t => teR D cy ad ba O u t.heap) (teA ba)) args s 0 0 (teA ba)) (F0 m 4 ls []) := by
  have hx := X.1
  have hb := X.2.1
  have hown := X.2.2.2.2.1
  intro n
  induction n with
  | zero =>
    intro v1 v2 H locs ls hR hS hl hf
    exact nomatch hf
  | succ n ih =>
    intro v1 v2 H locs ls hR hS hl hf
    unfold fX1_countFitting_4 at hf
    refine lv_iload_n hx hb dX1_countFitting_4 rfl (lv_at hl 2 rfl) ?_
    refine lv_aload_n hx hb dX1_countFitting_5 rfl (lv_at hl 0 rfl) ?_
    refine rg_1_1 X hR hk0 iX1_countFitting_1 wX1_countFitting_18 dX1_countFitting_6 ?_
    refine lv_icmp_ge (tgt := 26) hx hb dX1_countFitting_9 (by decide) (fun c_1 => ?_) (fun c_1 => ?_)
    · replace hf := ite_t c_1 hf
      refine lv_iload_n hx hb dX1_countFitting_26 rfl (lv_at hl 1 rfl) ?_
      refine lv_iconst (v := (2 : Int32)) hx hb dX1_countFitting_27 (by decide) ?_
      refine lv_idiv hx hb dX1_countFitting_28 (by decide) ?_
      exact eI X hR hS (Option.some.inj hf) rfl dX1_countFitting_29
    · replace hf := ite_f c_1 hf
      refine lv_iload_n hx hb dX1_countFitting_12 rfl (lv_at hl 1 rfl) ?_
      refine lv_aload_n hx hb dX1_countFitting_13 rfl (lv_at hl 0 rfl) ?_
      refine lv_iload_n hx hb dX1_countFitting_14 rfl (lv_at hl 2 rfl) ?_
      obtain ⟨r_2, hq_3, hf⟩ := bd1_some hf
      refine kVi (id := (20 * k0)) (As := [.int v2]) (rest := [.int v1]) X hR hS (zcX1_countFittingWith l D cy ad ba O S k0 v2 hk0 _ hq_3) (cwV 1 X.2.2.2.2.2.1 gX1_countFitting_X1_countFittingWith rfl rfl rfl kdX1_countFittingWith ⟨(Nat.le_of_ble_eq_true rfl), (Nat.le_of_ble_eq_true rfl)⟩) (te_idc hk0) (teE_circ cy ad O S hk0) rfl rfl rfl hl.1 (Nat.le_of_ble_eq_true rfl) ⟨(Nat.le_of_ble_eq_true rfl), (Nat.le_of_ble_eq_true rfl)⟩ dX1_countFitting_15 (fun H locs hR hS => ?_)
      refine lv_iadd hx hb dX1_countFitting_18 ?_
      refine lv_istore_n (lv' := [(1, .int (v1 + r_2)), (0, .ref (ad (20 * k0))), (2, .int v2)]) hx hb dX1_countFitting_19 rfl hl (by decide) rfl (fun ls hl => ?_)
      refine lv_iinc (v := (v2 + (1 : Int32))) (lv' := [(2, .int (v2 + (1 : Int32))), (1, .int (v1 + r_2)), (0, .ref (ad (20 * k0)))]) hx hb dX1_countFitting_20 hl (k := 2) rfl rfl (by decide) rfl (fun ls hl => ?_)
      refine lv_goto (tgt := 4) hx hb dX1_countFitting_23 (by decide) ?_
      exact ih ((v1 + r_2)) ((v2 + (1 : Int32))) _ _ _ hR hS (lv_sub hl [2, 1, 0] rfl) hf
set_option maxRecDepth 100000 in
set_option maxHeartbeats 4000000 in
theorem bX1_countFitting_0 {p : Program} {l : Launch} {e : Env} {s : State} {m : MethodId} {args : Array Value} {below : List Frame} {meth : Method} {c : Code} {D : va_G} {cy : Nat → ClassId} {ad : Nat → Nat} {ba : Nat → Prop} {O : Int64} {S : teS}  {k0 : Nat} {res : Int32} (hk0 : k0 < 18) (X : teC wsX1_countFitting RX1 cX1_countFitting 3 (some .int) D cy ba p s m args meth c) (H : Heap) (locs : List Loc) (ls : Array Slot) (hR : teR D cy ad ba O S H) (hS : va_S (teA ba) s.heap H locs) (hl : lv_has ls 3 [(0, .ref (ad (20 * k0)))]) (hf : fX1_countFitting k0 S = some res) : W p l e (headSpec wsX1_countFitting rmX1_countFitting).room s m args below meth c H locs 0 0 (MQ below (va_Qi (fun a (u : teS) => a = res ∧ u = S) (fun u t => teR D cy ad ba O u t.heap) (teA ba)) args s 0 0 (teA ba)) (F0 m 0 ls []) := by
  have hx := X.1
  have hb := X.2.1
  have hown := X.2.2.2.2.1
  unfold fX1_countFitting at hf
  refine lv_iconst (v := (0 : Int32)) hx hb dX1_countFitting_0 (by decide) ?_
  refine lv_istore_n (lv' := [(1, .int (0 : Int32)), (0, .ref (ad (20 * k0)))]) hx hb dX1_countFitting_1 rfl hl (by decide) rfl (fun ls hl => ?_)
  refine lv_iconst (v := (0 : Int32)) hx hb dX1_countFitting_2 (by decide) ?_
  refine lv_istore_n (lv' := [(2, .int (0 : Int32)), (1, .int (0 : Int32)), (0, .ref (ad (20 * k0)))]) hx hb dX1_countFitting_3 rfl hl (by decide) rfl (fun ls hl => ?_)
  exact bX1_countFitting_4 (S := S) (k0 := k0) hk0 X 2000 ((0 : Int32)) ((0 : Int32)) _ _ _ hR hS (lv_sub hl [2, 1, 0] rfl) hf
theorem zcX1_countFitting (l : Launch) (D : va_G) (cy : Nat → ClassId) (ad : Nat → Nat) (ba : Nat → Prop) (O : Int64) (S : teS) (k0 : Nat) (hk0 : k0 < 18) (res : Int32) (hf : fX1_countFitting k0 S = some res) : cI l yX1_countFitting wsX1_countFitting rmX1_countFitting D cy ad ba O S [.ref (ad (20 * k0))] res S :=
  te_of (by decide +kernel) rfl (Nat.le_of_ble_eq_true rfl) (fun p e s m below meth c ls X hR hS hl => bX1_countFitting_0 (S := S) (k0 := k0) hk0 X _ _ _ hR hS hl hf)
abbrev rmX1_add : Room := { frames := 1, cells := 0, slots := 0, locals := 25 }
theorem kdX1_add : yX1_add.cls = RX1 ∧ yX1_add.cls ≠ "java/lang/invoke/MethodHandle" ∧ yX1_add.cls ≠ "java/lang/invoke/VarHandle" ∧ (parseMethodDescriptor yX1_add.desc).map (fun d => d.parameters.length) = some 3 := by decide +kernel
theorem wX1_add_18 : Cond.fieldLink RX1 18 "TandemExchange$Circle" "size" "I" ∈ wsX1_add := by decide +kernel
theorem iX1_add_1 : ∀ w ∈ wsX10, w ∈ wsX1_add := fun _ h => List.mem_cons_of_mem _ (List.mem_append_left _ (List.mem_append_right _ h))
theorem wX1_add_11 : Cond.fieldLink RX1 11 "TandemExchange$Circle" "members" "[LTandemExchange$Member;" ∈ wsX1_add := by decide +kernel
set_option maxRecDepth 100000 in
set_option maxHeartbeats 4000000 in
theorem bX1_add_0 {p : Program} {l : Launch} {e : Env} {s : State} {m : MethodId} {args : Array Value} {below : List Frame} {meth : Method} {c : Code} {D : va_G} {cy : Nat → ClassId} {ad : Nat → Nat} {ba : Nat → Prop} {O : Int64} {S : teS}  {k0 : Nat} {x1 : Int32} {x2 : Int32} {x3 : Int32} {res : teS} (hk0 : k0 < 18) (X : teC wsX1_add RX1 cX1_add 4 none D cy ba p s m args meth c) (H : Heap) (locs : List Loc) (ls : Array Slot) (hR : teR D cy ad ba O S H) (hS : va_S (teA ba) s.heap H locs) (hl : lv_has ls 4 [(0, .ref (ad (20 * k0))), (1, .int x1), (2, .int x2), (3, .int x3)]) (hf : fX1_add k0 x1 x2 x3 S = some res) : W p l e (headSpec wsX1_add rmX1_add).room s m args below meth c H locs 0 0 (MQ below (va_Qv (fun (u : teS) => u = res) (fun u t => teR D cy ad ba O u t.heap) (teA ba)) args s 0 0 (teA ba)) (F0 m 0 ls []) := by
  have hx := X.1
  have hb := X.2.1
  have hown := X.2.2.2.2.1
  unfold fX1_add at hf
  refine lv_aload_n hx hb dX1_add_0 rfl (lv_at hl 0 rfl) ?_
  refine rg_1_1 X hR hk0 iX1_add_1 wX1_add_18 dX1_add_1 ?_
  refine lv_bipush (v := (9 : Int32)) hx hb dX1_add_4 (by decide) ?_
  refine lv_icmp_ge (tgt := 34) hx hb dX1_add_6 (by decide) (fun c_1 => ?_) (fun c_1 => ?_)
  · replace hf := ite_t c_1 hf
    exact eV X hR hS (Option.some.inj hf) dX1_add_34
  · replace hf := ite_f c_1 hf
    refine lv_aload_n hx hb dX1_add_9 rfl (lv_at hl 0 rfl) ?_
    refine rg_1_0 X hR hk0 iX1_add_1 wX1_add_11 dX1_add_10 ?_
    refine lv_aload_n hx hb dX1_add_13 rfl (lv_at hl 0 rfl) ?_
    refine rg_1_1 X hR hk0 iX1_add_1 wX1_add_18 dX1_add_14 ?_
    obtain ⟨h_2, hf⟩ := chk_some hf
    refine ra_mem X hR hk0 h_2 dX1_add_17 ?_
    refine lv_iload_n hx hb dX1_add_18 rfl (lv_at hl 1 rfl) ?_
    refine lv_iload_n hx hb dX1_add_19 rfl (lv_at hl 2 rfl) ?_
    refine lv_iload_n hx hb dX1_add_20 rfl (lv_at hl 3 rfl) ?_
    obtain ⟨S1, hq_4, hf⟩ := bd1_some hf
    refine kVv (id := (20 * k0 + 2 + (S k0 0).toNatClampNeg)) (As := [.int x1, .int x2, .int x3]) (rest := []) X hR hS (zcX3_start l D cy ad ba O S k0 ((S k0 0).toNatClampNeg) x1 x2 x3 hk0 (tein_lt h_2) _ hq_4) (cwV 3 X.2.2.2.2.2.1 gX1_add_X3_start rfl rfl rfl kdX3_start ⟨(Nat.le_of_ble_eq_true rfl), (Nat.le_of_ble_eq_true rfl)⟩) (te_idm hk0 (tein_lt h_2)) (teE_memb cy ad O S hk0 (tein_lt h_2)) rfl rfl rfl hl.1 (Nat.le_of_ble_eq_true rfl) ⟨(Nat.le_of_ble_eq_true rfl), (Nat.le_of_ble_eq_true rfl)⟩ dX1_add_21 (fun H locs hR hS => ?_)
    refine lv_aload_n hx hb dX1_add_24 rfl (lv_at hl 0 rfl) ?_
    refine lv_dup hx hb dX1_add_25 rfl ?_
    refine rg_1_1 X hR hk0 iX1_add_1 wX1_add_18 dX1_add_26 ?_
    refine lv_iconst (v := (1 : Int32)) hx hb dX1_add_29 (by decide) ?_
    refine lv_iadd hx hb dX1_add_30 ?_
    refine rp_1_1 X hR hS hk0 iX1_add_1 wX1_add_18 dX1_add_31 (fun H locs hR hS => ?_)
    generalize teu S1 k0 0 ((S1 k0 0) + (1 : Int32)) = S2 at hf hR
    replace hf := lt1_e hf
    exact eV X hR hS (Option.some.inj hf) dX1_add_34
theorem zcX1_add (l : Launch) (D : va_G) (cy : Nat → ClassId) (ad : Nat → Nat) (ba : Nat → Prop) (O : Int64) (S : teS) (k0 : Nat) (x1 : Int32) (x2 : Int32) (x3 : Int32) (hk0 : k0 < 18) (res : teS) (hf : fX1_add k0 x1 x2 x3 S = some res) : cV l yX1_add wsX1_add rmX1_add D cy ad ba O S [.ref (ad (20 * k0)), .int x1, .int x2, .int x3] res :=
  te_of (by decide +kernel) rfl (Nat.le_of_ble_eq_true rfl) (fun p e s m below meth c ls X hR hS hl => bX1_add_0 (S := S) (k0 := k0) (x1 := x1) (x2 := x2) (x3 := x3) hk0 X _ _ _ hR hS hl hf)
abbrev rmX1_separate : Room := { frames := 1, cells := 0, slots := 0, locals := 21 }
theorem kdX1_separate : yX1_separate.cls = RX1 ∧ yX1_separate.cls ≠ "java/lang/invoke/MethodHandle" ∧ yX1_separate.cls ≠ "java/lang/invoke/VarHandle" ∧ (parseMethodDescriptor yX1_separate.desc).map (fun d => d.parameters.length) = some 1 := by decide +kernel
theorem wX1_separate_11 : Cond.fieldLink RX1 11 "TandemExchange$Circle" "members" "[LTandemExchange$Member;" ∈ wsX1_separate := by decide +kernel
theorem iX1_separate_1 : ∀ w ∈ wsX10, w ∈ wsX1_separate := fun _ h => List.mem_cons_of_mem _ (List.mem_append_left _ (List.mem_append_right _ h))
theorem wX1_separate_29 : Cond.fieldLink RX1 29 "TandemExchange$Member" "partner" "I" ∈ wsX1_separate := by decide +kernel
theorem iX1_separate_3 : ∀ w ∈ wsX30, w ∈ wsX1_separate := fun _ h => List.mem_cons_of_mem _ (List.mem_append_right _ h)
set_option maxRecDepth 100000 in
set_option maxHeartbeats 4000000 in
theorem bX1_separate_0 {p : Program} {l : Launch} {e : Env} {s : State} {m : MethodId} {args : Array Value} {below : List Frame} {meth : Method} {c : Code} {D : va_G} {cy : Nat → ClassId} {ad : Nat → Nat} {ba : Nat → Prop} {O : Int64} {S : teS}  {k0 : Nat} {x1 : Int32} {res : teS} (hk0 : k0 < 18) (X : teC wsX1_separate RX1 cX1_separate 3 none D cy ba p s m args meth c) (H : Heap) (locs : List Loc) (ls : Array Slot) (hR : teR D cy ad ba O S H) (hS : va_S (teA ba) s.heap H locs) (hl : lv_has ls 3 [(0, .ref (ad (20 * k0))), (1, .int x1)]) (hf : fX1_separate k0 x1 S = some res) : W p l e (headSpec wsX1_separate rmX1_separate).room s m args below meth c H locs 0 0 (MQ below (va_Qv (fun (u : teS) => u = res) (fun u t => teR D cy ad ba O u t.heap) (teA ba)) args s 0 0 (teA ba)) (F0 m 0 ls []) := by
  have hx := X.1
  have hb := X.2.1
  have hown := X.2.2.2.2.1
  unfold fX1_separate at hf
  refine lv_aload_n hx hb dX1_separate_0 rfl (lv_at hl 0 rfl) ?_
  refine rg_1_0 X hR hk0 iX1_separate_1 wX1_separate_11 dX1_separate_1 ?_
  refine lv_iload_n hx hb dX1_separate_4 rfl (lv_at hl 1 rfl) ?_
  obtain ⟨h_1, hf⟩ := chk_some hf
  refine ra_mem X hR hk0 h_1 dX1_separate_5 ?_
  refine rg_3_5 X hR hk0 (tein_lt h_1) iX1_separate_3 wX1_separate_29 dX1_separate_6 ?_
  refine lv_istore_n (lv' := [(2, .int (S k0 (2 + 10 * x1.toNatClampNeg + 8))), (0, .ref (ad (20 * k0))), (1, .int x1)]) hx hb dX1_separate_9 rfl hl (by decide) rfl (fun ls hl => ?_)
  refine lv_aload_n hx hb dX1_separate_10 rfl (lv_at hl 1 rfl) ?_
  refine lv_iload_n hx hb dX1_separate_11 rfl (lv_at hl 0 rfl) ?_
  obtain ⟨r_2, hq_3, hf⟩ := bd1_some hf
  refine kVi (id := (20 * k0)) (As := [.int (S k0 (2 + 10 * x1.toNatClampNeg + 8))]) (rest := []) X hR hS (zcX1_has l D cy ad ba O S k0 (S k0 (2 + 10 * x1.toNatClampNeg + 8)) hk0 _ hq_3) (cwV 1 X.2.2.2.2.2.1 gX1_separate_X1_has rfl rfl rfl kdX1_has ⟨(Nat.le_of_ble_eq_true rfl), (Nat.le_of_ble_eq_true rfl)⟩) (te_idc hk0) (teE_circ cy ad O S hk0) rfl rfl rfl hl.1 (Nat.le_of_ble_eq_true rfl) ⟨(Nat.le_of_ble_eq_true rfl), (Nat.le_of_ble_eq_true rfl)⟩ dX1_separate_12 (fun H locs hR hS => ?_)
  refine lv_if_eq (tgt := 42) hx hb dX1_separate_15 (by decide) (fun c_4 => ?_) (fun c_4 => ?_)
  · replace hf := ite_t c_4 hf
    exact eV X hR hS (Option.some.inj hf) dX1_separate_42
  · replace hf := ite_f c_4 hf
    refine lv_aload_n hx hb dX1_separate_18 rfl (lv_at hl 1 rfl) ?_
    refine rg_1_0 X hR hk0 iX1_separate_1 wX1_separate_11 dX1_separate_19 ?_
    refine lv_iload_n hx hb dX1_separate_22 rfl (lv_at hl 2 rfl) ?_
    refine ra_mem X hR hk0 h_1 dX1_separate_23 ?_
    refine lv_sipush (v := (-9999 : Int32)) hx hb dX1_separate_24 (by decide) ?_
    refine rp_3_5 X hR hS hk0 (tein_lt h_1) iX1_separate_3 wX1_separate_29 dX1_separate_27 (fun H locs hR hS => ?_)
    generalize teu S k0 (2 + 10 * x1.toNatClampNeg + 8) (-9999 : Int32) = S1 at hf hR
    replace hf := lt1_e hf
    refine lv_aload_n hx hb dX1_separate_30 rfl (lv_at hl 1 rfl) ?_
    refine rg_1_0 X hR hk0 iX1_separate_1 wX1_separate_11 dX1_separate_31 ?_
    refine lv_iload_n hx hb dX1_separate_34 rfl (lv_at hl 0 rfl) ?_
    obtain ⟨h_5, hf⟩ := chk_some hf
    refine ra_mem X hR hk0 h_5 dX1_separate_35 ?_
    refine lv_sipush (v := (-9999 : Int32)) hx hb dX1_separate_36 (by decide) ?_
    refine rp_3_5 X hR hS hk0 (tein_lt h_5) iX1_separate_3 wX1_separate_29 dX1_separate_39 (fun H locs hR hS => ?_)
    generalize teu S1 k0 (2 + 10 * (S k0 (2 + 10 * x1.toNatClampNeg + 8)).toNatClampNeg + 8) (-9999 : Int32) = S2 at hf hR
    replace hf := lt1_e hf
    exact eV X hR hS (Option.some.inj hf) dX1_separate_42
theorem zcX1_separate (l : Launch) (D : va_G) (cy : Nat → ClassId) (ad : Nat → Nat) (ba : Nat → Prop) (O : Int64) (S : teS) (k0 : Nat) (x1 : Int32) (hk0 : k0 < 18) (res : teS) (hf : fX1_separate k0 x1 S = some res) : cV l yX1_separate wsX1_separate rmX1_separate D cy ad ba O S [.ref (ad (20 * k0)), .int x1] res :=
  te_of (by decide +kernel) rfl (Nat.le_of_ble_eq_true rfl) (fun p e s m below meth c ls X hR hS hl => bX1_separate_0 (S := S) (k0 := k0) (x1 := x1) hk0 X _ _ _ hR hS hl hf)
abbrev rmX1_remove : Room := { frames := 2, cells := 0, slots := 0, locals := 81 }
theorem kdX1_remove : yX1_remove.cls = RX1 ∧ yX1_remove.cls ≠ "java/lang/invoke/MethodHandle" ∧ yX1_remove.cls ≠ "java/lang/invoke/VarHandle" ∧ (parseMethodDescriptor yX1_remove.desc).map (fun d => d.parameters.length) = some 1 := by decide +kernel
theorem wX1_remove_18 : Cond.fieldLink RX1 18 "TandemExchange$Circle" "size" "I" ∈ wsX1_remove := by decide +kernel
theorem iX1_remove_1 : ∀ w ∈ wsX10, w ∈ wsX1_remove := by decide +kernel
theorem wX1_remove_11 : Cond.fieldLink RX1 11 "TandemExchange$Circle" "members" "[LTandemExchange$Member;" ∈ wsX1_remove := by decide +kernel
theorem wX1_remove_29 : Cond.fieldLink RX1 29 "TandemExchange$Member" "partner" "I" ∈ wsX1_remove := by decide +kernel
theorem iX1_remove_3 : ∀ w ∈ wsX30, w ∈ wsX1_remove := by decide +kernel
set_option maxRecDepth 100000 in
set_option maxHeartbeats 4000000 in
theorem bX1_remove_50 {p : Program} {l : Launch} {e : Env} {s : State} {m : MethodId} {args : Array Value} {below : List Frame} {meth : Method} {c : Code} {D : va_G} {cy : Nat → ClassId} {ad : Nat → Nat} {ba : Nat → Prop} {O : Int64} {S : teS}  {k0 : Nat} {x1 : Int32} {res : teS} (hk0 : k0 < 18) (X : teC wsX1_remove RX1 cX1_remove 3 none D cy ba p s m args meth c) : ∀ (n : Nat), ∀ (S1 : teS) (v2 : Int32) (H : Heap) (locs : List Loc) (ls : Array Slot), teR D cy ad ba O S1 H → va_S (teA ba) s.heap H locs → lv_has ls 3 [(0, .ref (ad (20 * k0))), (1, .int x1), (2, .int v2)] → fX1_remove_50 k0 x1 n S1 v2 = some res → W p l e (headSpec wsX1_remove rmX1_remove).room s m args below meth c H locs 0 0 (MQ below (va_Qv (fun (u : teS) => u = res) (fun u t => teR D cy ad ba O u t.heap) (teA ba)) args s 0 0 (teA ba)) (F0 m 50 ls []) := by
  have hx := X.1
  have hb := X.2.1
  have hown := X.2.2.2.2.1
  intro n
  induction n with
  | zero =>
    intro S1 v2 H locs ls hR hS hl hf
    exact nomatch hf
  | succ n ih =>
    intro S1 v2 H locs ls hR hS hl hf
    unfold fX1_remove_50 at hf
    refine lv_iload_n hx hb dX1_remove_50 rfl (lv_at hl 2 rfl) ?_
    refine lv_aload_n hx hb dX1_remove_51 rfl (lv_at hl 0 rfl) ?_
    refine rg_1_1 X hR hk0 iX1_remove_1 wX1_remove_18 dX1_remove_52 ?_
    refine lv_icmp_ge (tgt := 92) hx hb dX1_remove_55 (by decide) (fun c_8 => ?_) (fun c_8 => ?_)
    · replace hf := ite_t c_8 hf
      exact eV X hR hS (Option.some.inj hf) dX1_remove_92
    · replace hf := ite_f c_8 hf
      refine lv_aload_n hx hb dX1_remove_58 rfl (lv_at hl 0 rfl) ?_
      refine rg_1_0 X hR hk0 iX1_remove_1 wX1_remove_11 dX1_remove_59 ?_
      refine lv_iload_n hx hb dX1_remove_62 rfl (lv_at hl 2 rfl) ?_
      obtain ⟨h_9, hf⟩ := chk_some hf
      refine ra_mem X hR hk0 h_9 dX1_remove_63 ?_
      refine rg_3_5 X hR hk0 (tein_lt h_9) iX1_remove_3 wX1_remove_29 dX1_remove_64 ?_
      refine lv_iload_n hx hb dX1_remove_67 rfl (lv_at hl 1 rfl) ?_
      refine lv_icmp_le (tgt := 86) hx hb dX1_remove_68 (by decide) (fun c_10 => ?_) (fun c_10 => ?_)
      · replace hf := ite_t c_10 hf
        refine lv_iinc (v := (v2 + (1 : Int32))) (lv' := [(2, .int (v2 + (1 : Int32))), (0, .ref (ad (20 * k0))), (1, .int x1)]) hx hb dX1_remove_86 hl (k := 2) rfl rfl (by decide) rfl (fun ls hl => ?_)
        refine lv_goto (tgt := 50) hx hb dX1_remove_89 (by decide) ?_
        exact ih S1 ((v2 + (1 : Int32))) _ _ _ hR hS (lv_sub hl [1, 2, 0] rfl) hf
      · replace hf := ite_f c_10 hf
        refine lv_aload_n hx hb dX1_remove_71 rfl (lv_at hl 0 rfl) ?_
        refine rg_1_0 X hR hk0 iX1_remove_1 wX1_remove_11 dX1_remove_72 ?_
        refine lv_iload_n hx hb dX1_remove_75 rfl (lv_at hl 2 rfl) ?_
        refine ra_mem X hR hk0 h_9 dX1_remove_76 ?_
        refine lv_dup hx hb dX1_remove_77 rfl ?_
        refine rg_3_5 X hR hk0 (tein_lt h_9) iX1_remove_3 wX1_remove_29 dX1_remove_78 ?_
        refine lv_iconst (v := (1 : Int32)) hx hb dX1_remove_81 (by decide) ?_
        refine lv_isub hx hb dX1_remove_82 ?_
        refine rp_3_5 X hR hS hk0 (tein_lt h_9) iX1_remove_3 wX1_remove_29 dX1_remove_83 (fun H locs hR hS => ?_)
        generalize teu S1 k0 (2 + 10 * v2.toNatClampNeg + 8) ((S1 k0 (2 + 10 * v2.toNatClampNeg + 8)) - (1 : Int32)) = S2 at hf hR
        replace hf := lt1_e hf
        refine lv_iinc (v := (v2 + (1 : Int32))) (lv' := [(2, .int (v2 + (1 : Int32))), (0, .ref (ad (20 * k0))), (1, .int x1)]) hx hb dX1_remove_86 hl (k := 2) rfl rfl (by decide) rfl (fun ls hl => ?_)
        refine lv_goto (tgt := 50) hx hb dX1_remove_89 (by decide) ?_
        exact ih S2 ((v2 + (1 : Int32))) _ _ _ hR hS (lv_sub hl [1, 2, 0] rfl) hf
set_option maxRecDepth 100000 in
set_option maxHeartbeats 4000000 in
theorem bX1_remove_17 {p : Program} {l : Launch} {e : Env} {s : State} {m : MethodId} {args : Array Value} {below : List Frame} {meth : Method} {c : Code} {D : va_G} {cy : Nat → ClassId} {ad : Nat → Nat} {ba : Nat → Prop} {O : Int64} {S : teS}  {k0 : Nat} {x1 : Int32} {res : teS} (hk0 : k0 < 18) (X : teC wsX1_remove RX1 cX1_remove 3 none D cy ba p s m args meth c) : ∀ (n : Nat), ∀ (S1 : teS) (v2 : Int32) (H : Heap) (locs : List Loc) (ls : Array Slot), teR D cy ad ba O S1 H → va_S (teA ba) s.heap H locs → lv_has ls 3 [(0, .ref (ad (20 * k0))), (1, .int x1), (2, .int v2)] → fX1_remove_17 k0 x1 n S1 v2 = some res → W p l e (headSpec wsX1_remove rmX1_remove).room s m args below meth c H locs 0 0 (MQ below (va_Qv (fun (u : teS) => u = res) (fun u t => teR D cy ad ba O u t.heap) (teA ba)) args s 0 0 (teA ba)) (F0 m 17 ls []) := by
  have hx := X.1
  have hb := X.2.1
  have hown := X.2.2.2.2.1
  intro n
  induction n with
  | zero =>
    intro S1 v2 H locs ls hR hS hl hf
    exact nomatch hf
  | succ n ih =>
    intro S1 v2 H locs ls hR hS hl hf
    unfold fX1_remove_17 at hf
    refine lv_iload_n hx hb dX1_remove_17 rfl (lv_at hl 2 rfl) ?_
    refine lv_aload_n hx hb dX1_remove_18 rfl (lv_at hl 0 rfl) ?_
    refine rg_1_1 X hR hk0 iX1_remove_1 wX1_remove_18 dX1_remove_19 ?_
    refine lv_icmp_ge (tgt := 48) hx hb dX1_remove_22 (by decide) (fun c_3 => ?_) (fun c_3 => ?_)
    · replace hf := ite_t c_3 hf
      refine lv_iconst (v := (0 : Int32)) hx hb dX1_remove_48 (by decide) ?_
      refine lv_istore_n (lv' := [(2, .int (0 : Int32)), (0, .ref (ad (20 * k0))), (1, .int x1)]) hx hb dX1_remove_49 rfl hl (by decide) rfl (fun ls hl => ?_)
      exact bX1_remove_50 (S := S) (k0 := k0) (x1 := x1) hk0 X 2000 S1 ((0 : Int32)) _ _ _ hR hS (lv_sub hl [1, 2, 0] rfl) hf
    · replace hf := ite_f c_3 hf
      refine lv_aload_n hx hb dX1_remove_25 rfl (lv_at hl 0 rfl) ?_
      refine rg_1_0 X hR hk0 iX1_remove_1 wX1_remove_11 dX1_remove_26 ?_
      refine lv_iload_n hx hb dX1_remove_29 rfl (lv_at hl 2 rfl) ?_
      obtain ⟨h_4, hf⟩ := chk_some hf
      refine ra_mem X hR hk0 h_4 dX1_remove_30 ?_
      refine lv_aload_n hx hb dX1_remove_31 rfl (lv_at hl 0 rfl) ?_
      refine rg_1_0 X hR hk0 iX1_remove_1 wX1_remove_11 dX1_remove_32 ?_
      refine lv_iload_n hx hb dX1_remove_35 rfl (lv_at hl 2 rfl) ?_
      refine lv_iconst (v := (1 : Int32)) hx hb dX1_remove_36 (by decide) ?_
      refine lv_iadd hx hb dX1_remove_37 ?_
      obtain ⟨h_5, hf⟩ := chk_some hf
      refine ra_mem X hR hk0 h_5 dX1_remove_38 ?_
      obtain ⟨S2, hq_7, hf⟩ := bd1_some hf
      refine kVv (id := (20 * k0 + 2 + v2.toNatClampNeg)) (As := [.ref (ad (20 * k0 + 2 + (v2 + (1 : Int32)).toNatClampNeg))]) (rest := []) X hR hS (zcX3_copyFrom l D cy ad ba O S1 k0 v2.toNatClampNeg k0 ((v2 + (1 : Int32)).toNatClampNeg) hk0 (tein_lt h_4) hk0 (tein_lt h_5) _ hq_7) (cwV 1 X.2.2.2.2.2.1 gX1_remove_X3_copyFrom rfl rfl rfl kdX3_copyFrom ⟨(Nat.le_of_ble_eq_true rfl), (Nat.le_of_ble_eq_true rfl)⟩) (te_idm hk0 (tein_lt h_4)) (teE_memb cy ad O S1 hk0 (tein_lt h_4)) rfl rfl rfl hl.1 (Nat.le_of_ble_eq_true rfl) ⟨(Nat.le_of_ble_eq_true rfl), (Nat.le_of_ble_eq_true rfl)⟩ dX1_remove_39 (fun H locs hR hS => ?_)
      refine lv_iinc (v := (v2 + (1 : Int32))) (lv' := [(2, .int (v2 + (1 : Int32))), (0, .ref (ad (20 * k0))), (1, .int x1)]) hx hb dX1_remove_42 hl (k := 2) rfl rfl (by decide) rfl (fun ls hl => ?_)
      refine lv_goto (tgt := 17) hx hb dX1_remove_45 (by decide) ?_
      exact ih S2 ((v2 + (1 : Int32))) _ _ _ hR hS (lv_sub hl [1, 2, 0] rfl) hf
set_option maxRecDepth 100000 in
set_option maxHeartbeats 4000000 in
theorem bX1_remove_0 {p : Program} {l : Launch} {e : Env} {s : State} {m : MethodId} {args : Array Value} {below : List Frame} {meth : Method} {c : Code} {D : va_G} {cy : Nat → ClassId} {ad : Nat → Nat} {ba : Nat → Prop} {O : Int64} {S : teS}  {k0 : Nat} {x1 : Int32} {res : teS} (hk0 : k0 < 18) (X : teC wsX1_remove RX1 cX1_remove 3 none D cy ba p s m args meth c) (H : Heap) (locs : List Loc) (ls : Array Slot) (hR : teR D cy ad ba O S H) (hS : va_S (teA ba) s.heap H locs) (hl : lv_has ls 3 [(0, .ref (ad (20 * k0))), (1, .int x1)]) (hf : fX1_remove k0 x1 S = some res) : W p l e (headSpec wsX1_remove rmX1_remove).room s m args below meth c H locs 0 0 (MQ below (va_Qv (fun (u : teS) => u = res) (fun u t => teR D cy ad ba O u t.heap) (teA ba)) args s 0 0 (teA ba)) (F0 m 0 ls []) := by
  have hx := X.1
  have hb := X.2.1
  have hown := X.2.2.2.2.1
  unfold fX1_remove at hf
  refine lv_aload_n hx hb dX1_remove_0 rfl (lv_at hl 0 rfl) ?_
  refine lv_iload_n hx hb dX1_remove_1 rfl (lv_at hl 1 rfl) ?_
  obtain ⟨S1, hq_2, hf⟩ := bd1_some hf
  refine kVv (id := (20 * k0)) (As := [.int x1]) (rest := []) X hR hS (zcX1_separate l D cy ad ba O S k0 x1 hk0 _ hq_2) (cwV 1 X.2.2.2.2.2.1 gX1_remove_X1_separate rfl rfl rfl kdX1_separate ⟨(Nat.le_of_ble_eq_true rfl), (Nat.le_of_ble_eq_true rfl)⟩) (te_idc hk0) (teE_circ cy ad O S hk0) rfl rfl rfl hl.1 (Nat.le_of_ble_eq_true rfl) ⟨(Nat.le_of_ble_eq_true rfl), (Nat.le_of_ble_eq_true rfl)⟩ dX1_remove_2 (fun H locs hR hS => ?_)
  refine lv_aload_n hx hb dX1_remove_5 rfl (lv_at hl 0 rfl) ?_
  refine lv_dup hx hb dX1_remove_6 rfl ?_
  refine rg_1_1 X hR hk0 iX1_remove_1 wX1_remove_18 dX1_remove_7 ?_
  refine lv_iconst (v := (1 : Int32)) hx hb dX1_remove_10 (by decide) ?_
  refine lv_isub hx hb dX1_remove_11 ?_
  refine rp_1_1 X hR hS hk0 iX1_remove_1 wX1_remove_18 dX1_remove_12 (fun H locs hR hS => ?_)
  generalize teu S1 k0 0 ((S1 k0 0) - (1 : Int32)) = S2 at hf hR
  replace hf := lt1_e hf
  refine lv_iload_n hx hb dX1_remove_15 rfl (lv_at hl 1 rfl) ?_
  refine lv_istore_n (lv' := [(2, .int x1), (0, .ref (ad (20 * k0))), (1, .int x1)]) hx hb dX1_remove_16 rfl hl (by decide) rfl (fun ls hl => ?_)
  exact bX1_remove_17 (S := S) (k0 := k0) (x1 := x1) hk0 X 2000 S2 (x1) _ _ _ hR hS (lv_sub hl [1, 2, 0] rfl) hf
theorem zcX1_remove (l : Launch) (D : va_G) (cy : Nat → ClassId) (ad : Nat → Nat) (ba : Nat → Prop) (O : Int64) (S : teS) (k0 : Nat) (x1 : Int32) (hk0 : k0 < 18) (res : teS) (hf : fX1_remove k0 x1 S = some res) : cV l yX1_remove wsX1_remove rmX1_remove D cy ad ba O S [.ref (ad (20 * k0)), .int x1] res :=
  te_of (by decide +kernel) rfl (Nat.le_of_ble_eq_true rfl) (fun p e s m below meth c ls X hR hS hl => bX1_remove_0 (S := S) (k0 := k0) (x1 := x1) hk0 X _ _ _ hR hS hl hf)
abbrev rmX1_separateIfUnfit : Room := { frames := 2, cells := 0, slots := 0, locals := 45 }
theorem kdX1_separateIfUnfit : yX1_separateIfUnfit.cls = RX1 ∧ yX1_separateIfUnfit.cls ≠ "java/lang/invoke/MethodHandle" ∧ yX1_separateIfUnfit.cls ≠ "java/lang/invoke/VarHandle" ∧ (parseMethodDescriptor yX1_separateIfUnfit.desc).map (fun d => d.parameters.length) = some 1 := by decide +kernel
theorem wX1_separateIfUnfit_11 : Cond.fieldLink RX1 11 "TandemExchange$Circle" "members" "[LTandemExchange$Member;" ∈ wsX1_separateIfUnfit := by decide +kernel
theorem iX1_separateIfUnfit_1 : ∀ w ∈ wsX10, w ∈ wsX1_separateIfUnfit := fun _ h => List.mem_cons_of_mem _ (List.mem_append_left _ (List.mem_append_right _ h))
theorem wX1_separateIfUnfit_29 : Cond.fieldLink RX1 29 "TandemExchange$Member" "partner" "I" ∈ wsX1_separateIfUnfit := by decide +kernel
theorem iX1_separateIfUnfit_3 : ∀ w ∈ wsX30, w ∈ wsX1_separateIfUnfit := fun _ h => List.mem_cons_of_mem _ (List.mem_append_right _ h)
set_option maxRecDepth 100000 in
set_option maxHeartbeats 4000000 in
theorem bX1_separateIfUnfit_0 {p : Program} {l : Launch} {e : Env} {s : State} {m : MethodId} {args : Array Value} {below : List Frame} {meth : Method} {c : Code} {D : va_G} {cy : Nat → ClassId} {ad : Nat → Nat} {ba : Nat → Prop} {O : Int64} {S : teS}  {k0 : Nat} {x1 : Int32} {res : teS} (hk0 : k0 < 18) (X : teC wsX1_separateIfUnfit RX1 cX1_separateIfUnfit 3 none D cy ba p s m args meth c) (H : Heap) (locs : List Loc) (ls : Array Slot) (hR : teR D cy ad ba O S H) (hS : va_S (teA ba) s.heap H locs) (hl : lv_has ls 3 [(0, .ref (ad (20 * k0))), (1, .int x1)]) (hf : fX1_separateIfUnfit k0 x1 S = some res) : W p l e (headSpec wsX1_separateIfUnfit rmX1_separateIfUnfit).room s m args below meth c H locs 0 0 (MQ below (va_Qv (fun (u : teS) => u = res) (fun u t => teR D cy ad ba O u t.heap) (teA ba)) args s 0 0 (teA ba)) (F0 m 0 ls []) := by
  have hx := X.1
  have hb := X.2.1
  have hown := X.2.2.2.2.1
  unfold fX1_separateIfUnfit at hf
  refine lv_aload_n hx hb dX1_separateIfUnfit_0 rfl (lv_at hl 0 rfl) ?_
  refine rg_1_0 X hR hk0 iX1_separateIfUnfit_1 wX1_separateIfUnfit_11 dX1_separateIfUnfit_1 ?_
  refine lv_iload_n hx hb dX1_separateIfUnfit_4 rfl (lv_at hl 1 rfl) ?_
  obtain ⟨h_1, hf⟩ := chk_some hf
  refine ra_mem X hR hk0 h_1 dX1_separateIfUnfit_5 ?_
  refine rg_3_5 X hR hk0 (tein_lt h_1) iX1_separateIfUnfit_3 wX1_separateIfUnfit_29 dX1_separateIfUnfit_6 ?_
  refine lv_istore_n (lv' := [(2, .int (S k0 (2 + 10 * x1.toNatClampNeg + 8))), (0, .ref (ad (20 * k0))), (1, .int x1)]) hx hb dX1_separateIfUnfit_9 rfl hl (by decide) rfl (fun ls hl => ?_)
  refine lv_aload_n hx hb dX1_separateIfUnfit_10 rfl (lv_at hl 1 rfl) ?_
  refine lv_iload_n hx hb dX1_separateIfUnfit_11 rfl (lv_at hl 0 rfl) ?_
  obtain ⟨r_2, hq_3, hf⟩ := bd1_some hf
  refine kVi (id := (20 * k0)) (As := [.int (S k0 (2 + 10 * x1.toNatClampNeg + 8))]) (rest := []) X hR hS (zcX1_has l D cy ad ba O S k0 (S k0 (2 + 10 * x1.toNatClampNeg + 8)) hk0 _ hq_3) (cwV 1 X.2.2.2.2.2.1 gX1_separateIfUnfit_X1_has rfl rfl rfl kdX1_has ⟨(Nat.le_of_ble_eq_true rfl), (Nat.le_of_ble_eq_true rfl)⟩) (te_idc hk0) (teE_circ cy ad O S hk0) rfl rfl rfl hl.1 (Nat.le_of_ble_eq_true rfl) ⟨(Nat.le_of_ble_eq_true rfl), (Nat.le_of_ble_eq_true rfl)⟩ dX1_separateIfUnfit_12 (fun H locs hR hS => ?_)
  refine lv_if_eq (tgt := 32) hx hb dX1_separateIfUnfit_15 (by decide) (fun c_4 => ?_) (fun c_4 => ?_)
  · replace hf := ite_t c_4 hf
    exact eV X hR hS (Option.some.inj hf) dX1_separateIfUnfit_32
  · replace hf := ite_f c_4 hf
    refine lv_aload_n hx hb dX1_separateIfUnfit_18 rfl (lv_at hl 1 rfl) ?_
    refine lv_iload_n hx hb dX1_separateIfUnfit_19 rfl (lv_at hl 2 rfl) ?_
    refine lv_iload_n hx hb dX1_separateIfUnfit_20 rfl (lv_at hl 0 rfl) ?_
    obtain ⟨r_5, hq_6, hf⟩ := bd1_some hf
    refine kVi (id := (20 * k0)) (As := [.int x1, .int (S k0 (2 + 10 * x1.toNatClampNeg + 8))]) (rest := []) X hR hS (zcX1_fit l D cy ad ba O S k0 x1 (S k0 (2 + 10 * x1.toNatClampNeg + 8)) hk0 _ hq_6) (cwV 2 X.2.2.2.2.2.1 gX1_separateIfUnfit_X1_fit rfl rfl rfl kdX1_fit ⟨(Nat.le_of_ble_eq_true rfl), (Nat.le_of_ble_eq_true rfl)⟩) (te_idc hk0) (teE_circ cy ad O S hk0) rfl rfl rfl hl.1 (Nat.le_of_ble_eq_true rfl) ⟨(Nat.le_of_ble_eq_true rfl), (Nat.le_of_ble_eq_true rfl)⟩ dX1_separateIfUnfit_21 (fun H locs hR hS => ?_)
    refine lv_if_ne (tgt := 32) hx hb dX1_separateIfUnfit_24 (by decide) (fun c_7 => ?_) (fun c_7 => ?_)
    · replace hf := ite_f c_7 hf
      exact eV X hR hS (Option.some.inj hf) dX1_separateIfUnfit_32
    · replace hf := ite_t c_7 hf
      refine lv_aload_n hx hb dX1_separateIfUnfit_27 rfl (lv_at hl 1 rfl) ?_
      refine lv_iload_n hx hb dX1_separateIfUnfit_28 rfl (lv_at hl 2 rfl) ?_
      obtain ⟨S1, hq_9, hf⟩ := bd1_some hf
      refine kVv (id := (20 * k0)) (As := [.int x1]) (rest := []) X hR hS (zcX1_separate l D cy ad ba O S k0 x1 hk0 _ hq_9) (cwV 1 X.2.2.2.2.2.1 gX1_separateIfUnfit_X1_separate rfl rfl rfl kdX1_separate ⟨(Nat.le_of_ble_eq_true rfl), (Nat.le_of_ble_eq_true rfl)⟩) (te_idc hk0) (teE_circ cy ad O S hk0) rfl rfl rfl hl.1 (Nat.le_of_ble_eq_true rfl) ⟨(Nat.le_of_ble_eq_true rfl), (Nat.le_of_ble_eq_true rfl)⟩ dX1_separateIfUnfit_29 (fun H locs hR hS => ?_)
      exact eV X hR hS (Option.some.inj hf) dX1_separateIfUnfit_32
theorem zcX1_separateIfUnfit (l : Launch) (D : va_G) (cy : Nat → ClassId) (ad : Nat → Nat) (ba : Nat → Prop) (O : Int64) (S : teS) (k0 : Nat) (x1 : Int32) (hk0 : k0 < 18) (res : teS) (hf : fX1_separateIfUnfit k0 x1 S = some res) : cV l yX1_separateIfUnfit wsX1_separateIfUnfit rmX1_separateIfUnfit D cy ad ba O S [.ref (ad (20 * k0)), .int x1] res :=
  te_of (by decide +kernel) rfl (Nat.le_of_ble_eq_true rfl) (fun p e s m below meth c ls X hR hS hl => bX1_separateIfUnfit_0 (S := S) (k0 := k0) (x1 := x1) hk0 X _ _ _ hR hS hl hf)
abbrev rmX1_changeWish : Room := { frames := 3, cells := 0, slots := 0, locals := 67 }
theorem kdX1_changeWish : yX1_changeWish.cls = RX1 ∧ yX1_changeWish.cls ≠ "java/lang/invoke/MethodHandle" ∧ yX1_changeWish.cls ≠ "java/lang/invoke/VarHandle" ∧ (parseMethodDescriptor yX1_changeWish.desc).map (fun d => d.parameters.length) = some 2 := by decide +kernel
theorem wX1_changeWish_11 : Cond.fieldLink RX1 11 "TandemExchange$Circle" "members" "[LTandemExchange$Member;" ∈ wsX1_changeWish := by decide +kernel
theorem iX1_changeWish_1 : ∀ w ∈ wsX10, w ∈ wsX1_changeWish := by decide +kernel
theorem wX1_changeWish_40 : Cond.fieldLink RX1 40 "TandemExchange$Member" "wants" "I" ∈ wsX1_changeWish := by decide +kernel
theorem iX1_changeWish_3 : ∀ w ∈ wsX30, w ∈ wsX1_changeWish := by decide +kernel
theorem wX1_changeWish_43 : Cond.fieldLink RX1 43 "TandemExchange$Member" "progress" "I" ∈ wsX1_changeWish := by decide +kernel
set_option maxRecDepth 100000 in
set_option maxHeartbeats 4000000 in
theorem bX1_changeWish_0 {p : Program} {l : Launch} {e : Env} {s : State} {m : MethodId} {args : Array Value} {below : List Frame} {meth : Method} {c : Code} {D : va_G} {cy : Nat → ClassId} {ad : Nat → Nat} {ba : Nat → Prop} {O : Int64} {S : teS}  {k0 : Nat} {x1 : Int32} {x2 : Int32} {res : teS} (hk0 : k0 < 18) (X : teC wsX1_changeWish RX1 cX1_changeWish 3 none D cy ba p s m args meth c) (H : Heap) (locs : List Loc) (ls : Array Slot) (hR : teR D cy ad ba O S H) (hS : va_S (teA ba) s.heap H locs) (hl : lv_has ls 3 [(0, .ref (ad (20 * k0))), (1, .int x1), (2, .int x2)]) (hf : fX1_changeWish k0 x1 x2 S = some res) : W p l e (headSpec wsX1_changeWish rmX1_changeWish).room s m args below meth c H locs 0 0 (MQ below (va_Qv (fun (u : teS) => u = res) (fun u t => teR D cy ad ba O u t.heap) (teA ba)) args s 0 0 (teA ba)) (F0 m 0 ls []) := by
  have hx := X.1
  have hb := X.2.1
  have hown := X.2.2.2.2.1
  unfold fX1_changeWish at hf
  refine lv_aload_n hx hb dX1_changeWish_0 rfl (lv_at hl 0 rfl) ?_
  refine rg_1_0 X hR hk0 iX1_changeWish_1 wX1_changeWish_11 dX1_changeWish_1 ?_
  refine lv_iload_n hx hb dX1_changeWish_4 rfl (lv_at hl 1 rfl) ?_
  obtain ⟨h_1, hf⟩ := chk_some hf
  refine ra_mem X hR hk0 h_1 dX1_changeWish_5 ?_
  refine lv_iload_n hx hb dX1_changeWish_6 rfl (lv_at hl 2 rfl) ?_
  refine rp_3_1 X hR hS hk0 (tein_lt h_1) iX1_changeWish_3 wX1_changeWish_40 dX1_changeWish_7 (fun H locs hR hS => ?_)
  generalize teu S k0 (2 + 10 * x1.toNatClampNeg + 4) x2 = S1 at hf hR
  replace hf := lt1_e hf
  refine lv_aload_n hx hb dX1_changeWish_10 rfl (lv_at hl 0 rfl) ?_
  refine rg_1_0 X hR hk0 iX1_changeWish_1 wX1_changeWish_11 dX1_changeWish_11 ?_
  refine lv_iload_n hx hb dX1_changeWish_14 rfl (lv_at hl 1 rfl) ?_
  refine ra_mem X hR hk0 h_1 dX1_changeWish_15 ?_
  refine lv_iconst (v := (0 : Int32)) hx hb dX1_changeWish_16 (by decide) ?_
  refine rp_3_2 X hR hS hk0 (tein_lt h_1) iX1_changeWish_3 wX1_changeWish_43 dX1_changeWish_17 (fun H locs hR hS => ?_)
  generalize teu S1 k0 (2 + 10 * x1.toNatClampNeg + 5) (0 : Int32) = S2 at hf hR
  replace hf := lt1_e hf
  refine lv_aload_n hx hb dX1_changeWish_20 rfl (lv_at hl 0 rfl) ?_
  refine lv_iload_n hx hb dX1_changeWish_21 rfl (lv_at hl 1 rfl) ?_
  obtain ⟨S3, hq_3, hf⟩ := bd1_some hf
  refine kVv (id := (20 * k0)) (As := [.int x1]) (rest := []) X hR hS (zcX1_separateIfUnfit l D cy ad ba O S2 k0 x1 hk0 _ hq_3) (cwV 1 X.2.2.2.2.2.1 gX1_changeWish_X1_separateIfUnfit rfl rfl rfl kdX1_separateIfUnfit ⟨(Nat.le_of_ble_eq_true rfl), (Nat.le_of_ble_eq_true rfl)⟩) (te_idc hk0) (teE_circ cy ad O S2 hk0) rfl rfl rfl hl.1 (Nat.le_of_ble_eq_true rfl) ⟨(Nat.le_of_ble_eq_true rfl), (Nat.le_of_ble_eq_true rfl)⟩ dX1_changeWish_22 (fun H locs hR hS => ?_)
  exact eV X hR hS (Option.some.inj hf) dX1_changeWish_25
theorem zcX1_changeWish (l : Launch) (D : va_G) (cy : Nat → ClassId) (ad : Nat → Nat) (ba : Nat → Prop) (O : Int64) (S : teS) (k0 : Nat) (x1 : Int32) (x2 : Int32) (hk0 : k0 < 18) (res : teS) (hf : fX1_changeWish k0 x1 x2 S = some res) : cV l yX1_changeWish wsX1_changeWish rmX1_changeWish D cy ad ba O S [.ref (ad (20 * k0)), .int x1, .int x2] res :=
  te_of (by decide +kernel) rfl (Nat.le_of_ble_eq_true rfl) (fun p e s m below meth c ls X hR hS hl => bX1_changeWish_0 (S := S) (k0 := k0) (x1 := x1) (x2 := x2) hk0 X _ _ _ hR hS hl hf)
abbrev rmX1_grade : Room := { frames := 3, cells := 0, slots := 0, locals := 67 }
theorem kdX1_grade : yX1_grade.cls = RX1 ∧ yX1_grade.cls ≠ "java/lang/invoke/MethodHandle" ∧ yX1_grade.cls ≠ "java/lang/invoke/VarHandle" ∧ (parseMethodDescriptor yX1_grade.desc).map (fun d => d.parameters.length) = some 3 := by decide +kernel
theorem wX1_grade_11 : Cond.fieldLink RX1 11 "TandemExchange$Circle" "members" "[LTandemExchange$Member;" ∈ wsX1_grade := by decide +kernel
theorem iX1_grade_1 : ∀ w ∈ wsX10, w ∈ wsX1_grade := by decide +kernel
theorem wX1_grade_36 : Cond.fieldLink RX1 36 "TandemExchange$Member" "levels" "[I" ∈ wsX1_grade := by decide +kernel
theorem iX1_grade_3 : ∀ w ∈ wsX30, w ∈ wsX1_grade := by decide +kernel
theorem wX1_grade_40 : Cond.fieldLink RX1 40 "TandemExchange$Member" "wants" "I" ∈ wsX1_grade := by decide +kernel
theorem wX1_grade_43 : Cond.fieldLink RX1 43 "TandemExchange$Member" "progress" "I" ∈ wsX1_grade := by decide +kernel
set_option maxRecDepth 100000 in
set_option maxHeartbeats 4000000 in
theorem bX1_grade_0 {p : Program} {l : Launch} {e : Env} {s : State} {m : MethodId} {args : Array Value} {below : List Frame} {meth : Method} {c : Code} {D : va_G} {cy : Nat → ClassId} {ad : Nat → Nat} {ba : Nat → Prop} {O : Int64} {S : teS}  {k0 : Nat} {x1 : Int32} {x2 : Int32} {x3 : Int32} {res : teS} (hk0 : k0 < 18) (X : teC wsX1_grade RX1 cX1_grade 5 none D cy ba p s m args meth c) (H : Heap) (locs : List Loc) (ls : Array Slot) (hR : teR D cy ad ba O S H) (hS : va_S (teA ba) s.heap H locs) (hl : lv_has ls 5 [(0, .ref (ad (20 * k0))), (1, .int x1), (2, .int x2), (3, .int x3)]) (hf : fX1_grade k0 x1 x2 x3 S = some res) : W p l e (headSpec wsX1_grade rmX1_grade).room s m args below meth c H locs 0 0 (MQ below (va_Qv (fun (u : teS) => u = res) (fun u t => teR D cy ad ba O u t.heap) (teA ba)) args s 0 0 (teA ba)) (F0 m 0 ls []) := by
  have hx := X.1
  have hb := X.2.1
  have hown := X.2.2.2.2.1
  unfold fX1_grade at hf
  refine lv_aload_n hx hb dX1_grade_0 rfl (lv_at hl 0 rfl) ?_
  refine rg_1_0 X hR hk0 iX1_grade_1 wX1_grade_11 dX1_grade_1 ?_
  refine lv_iload_n hx hb dX1_grade_4 rfl (lv_at hl 1 rfl) ?_
  obtain ⟨h_1, hf⟩ := chk_some hf
  refine ra_mem X hR hk0 h_1 dX1_grade_5 ?_
  refine lv_astore (lv' := [(4, .ref (ad (20 * k0 + 2 + x1.toNatClampNeg))), (0, .ref (ad (20 * k0))), (1, .int x1), (2, .int x2), (3, .int x3)]) hx hb dX1_grade_6 hl (by decide) rfl (fun ls hl => ?_)
  refine lv_aload hx hb dX1_grade_8 (lv_at hl 0 rfl) ?_
  refine rg_3_0 X hR hk0 (tein_lt h_1) iX1_grade_3 wX1_grade_36 dX1_grade_10 ?_
  refine lv_iload_n hx hb dX1_grade_13 rfl (lv_at hl 3 rfl) ?_
  refine lv_iload_n hx hb dX1_grade_14 rfl (lv_at hl 4 rfl) ?_
  refine lv_bipush (v := (10 : Int32)) hx hb dX1_grade_15 (by decide) ?_
  refine lv_idiv hx hb dX1_grade_17 (by decide) ?_
  obtain ⟨h_2, hf⟩ := chk_some hf
  refine rs_lev X hR hS hk0 (tein_lt h_1) h_2 dX1_grade_18 (fun H locs hR hS => ?_)
  generalize teu S k0 (2 + 10 * x1.toNatClampNeg + x2.toNatClampNeg) (x3 / (10 : Int32)) = S1 at hf hR
  replace hf := lt1_e hf
  refine lv_aload hx hb dX1_grade_19 (lv_at hl 0 rfl) ?_
  refine rg_3_1 X hR hk0 (tein_lt h_1) iX1_grade_3 wX1_grade_40 dX1_grade_21 ?_
  refine lv_iload_n hx hb dX1_grade_24 rfl (lv_at hl 3 rfl) ?_
  refine lv_icmp_ne (tgt := 39) hx hb dX1_grade_25 (by decide) (fun c_3 => ?_) (fun c_3 => ?_)
  · replace hf := ite_f c_3 hf
    refine lv_aload_n hx hb dX1_grade_39 rfl (lv_at hl 1 rfl) ?_
    refine lv_iload_n hx hb dX1_grade_40 rfl (lv_at hl 2 rfl) ?_
    obtain ⟨S2, hq_5, hf⟩ := bd1_some hf
    refine kVv (id := (20 * k0)) (As := [.int x1]) (rest := []) X hR hS (zcX1_separateIfUnfit l D cy ad ba O S1 k0 x1 hk0 _ hq_5) (cwV 1 X.2.2.2.2.2.1 gX1_grade_X1_separateIfUnfit rfl rfl rfl kdX1_separateIfUnfit ⟨(Nat.le_of_ble_eq_true rfl), (Nat.le_of_ble_eq_true rfl)⟩) (te_idc hk0) (teE_circ cy ad O S1 hk0) rfl rfl rfl hl.1 (Nat.le_of_ble_eq_true rfl) ⟨(Nat.le_of_ble_eq_true rfl), (Nat.le_of_ble_eq_true rfl)⟩ dX1_grade_41 (fun H locs hR hS => ?_)
    exact eV X hR hS (Option.some.inj hf) dX1_grade_44
  · replace hf := ite_t c_3 hf
    refine lv_aload hx hb dX1_grade_28 (lv_at hl 0 rfl) ?_
    refine lv_iload_n hx hb dX1_grade_30 rfl (lv_at hl 4 rfl) ?_
    refine lv_bipush (v := (10 : Int32)) hx hb dX1_grade_31 (by decide) ?_
    refine lv_irem hx hb dX1_grade_33 (by decide) ?_
    refine lv_iconst (v := (2 : Int32)) hx hb dX1_grade_34 (by decide) ?_
    refine lv_imul hx hb dX1_grade_35 ?_
    refine rp_3_2 X hR hS hk0 (tein_lt h_1) iX1_grade_3 wX1_grade_43 dX1_grade_36 (fun H locs hR hS => ?_)
    generalize teu S1 k0 (2 + 10 * x1.toNatClampNeg + 5) ((x3 - x3 / (10 : Int32) * (10 : Int32)) * (2 : Int32)) = S3 at hf hR
    replace hf := lt1_e hf
    refine lv_aload_n hx hb dX1_grade_39 rfl (lv_at hl 1 rfl) ?_
    refine lv_iload_n hx hb dX1_grade_40 rfl (lv_at hl 2 rfl) ?_
    obtain ⟨S4, hq_7, hf⟩ := bd1_some hf
    refine kVv (id := (20 * k0)) (As := [.int x1]) (rest := []) X hR hS (zcX1_separateIfUnfit l D cy ad ba O S3 k0 x1 hk0 _ hq_7) (cwV 1 X.2.2.2.2.2.1 gX1_grade_X1_separateIfUnfit rfl rfl rfl kdX1_separateIfUnfit ⟨(Nat.le_of_ble_eq_true rfl), (Nat.le_of_ble_eq_true rfl)⟩) (te_idc hk0) (teE_circ cy ad O S3 hk0) rfl rfl rfl hl.1 (Nat.le_of_ble_eq_true rfl) ⟨(Nat.le_of_ble_eq_true rfl), (Nat.le_of_ble_eq_true rfl)⟩ dX1_grade_41 (fun H locs hR hS => ?_)
    exact eV X hR hS (Option.some.inj hf) dX1_grade_44
theorem zcX1_grade (l : Launch) (D : va_G) (cy : Nat → ClassId) (ad : Nat → Nat) (ba : Nat → Prop) (O : Int64) (S : teS) (k0 : Nat) (x1 : Int32) (x2 : Int32) (x3 : Int32) (hk0 : k0 < 18) (res : teS) (hf : fX1_grade k0 x1 x2 x3 S = some res) : cV l yX1_grade wsX1_grade rmX1_grade D cy ad ba O S [.ref (ad (20 * k0)), .int x1, .int x2, .int x3] res :=
  te_of (by decide +kernel) rfl (Nat.le_of_ble_eq_true rfl) (fun p e s m below meth c ls X hR hS hl => bX1_grade_0 (S := S) (k0 := k0) (x1 := x1) (x2 := x2) (x3 := x3) hk0 X _ _ _ hR hS hl hf)
abbrev rmX1_unite : Room := { frames := 0, cells := 0, slots := 0, locals := 0 }
theorem kdX1_unite : yX1_unite.cls = RX1 ∧ yX1_unite.cls ≠ "java/lang/invoke/MethodHandle" ∧ yX1_unite.cls ≠ "java/lang/invoke/VarHandle" ∧ (parseMethodDescriptor yX1_unite.desc).map (fun d => d.parameters.length) = some 2 := by decide +kernel
theorem wX1_unite_11 : Cond.fieldLink RX1 11 "TandemExchange$Circle" "members" "[LTandemExchange$Member;" ∈ wsX1_unite := by decide +kernel
theorem iX1_unite_1 : ∀ w ∈ wsX10, w ∈ wsX1_unite := fun _ h => List.mem_cons_of_mem _ (List.mem_append_left _ (List.mem_append_right _ h))
theorem wX1_unite_29 : Cond.fieldLink RX1 29 "TandemExchange$Member" "partner" "I" ∈ wsX1_unite := by decide +kernel
theorem iX1_unite_3 : ∀ w ∈ wsX30, w ∈ wsX1_unite := fun _ h => List.mem_cons_of_mem _ (List.mem_append_right _ h)
theorem wX1_unite_55 : Cond.fieldLink RX1 55 "TandemExchange$Member" "missedInRow" "I" ∈ wsX1_unite := by decide +kernel
set_option maxRecDepth 100000 in
set_option maxHeartbeats 4000000 in
theorem bX1_unite_0 {p : Program} {l : Launch} {e : Env} {s : State} {m : MethodId} {args : Array Value} {below : List Frame} {meth : Method} {c : Code} {D : va_G} {cy : Nat → ClassId} {ad : Nat → Nat} {ba : Nat → Prop} {O : Int64} {S : teS}  {k0 : Nat} {x1 : Int32} {x2 : Int32} {res : teS} (hk0 : k0 < 18) (X : teC wsX1_unite RX1 cX1_unite 3 none D cy ba p s m args meth c) (H : Heap) (locs : List Loc) (ls : Array Slot) (hR : teR D cy ad ba O S H) (hS : va_S (teA ba) s.heap H locs) (hl : lv_has ls 3 [(0, .ref (ad (20 * k0))), (1, .int x1), (2, .int x2)]) (hf : fX1_unite k0 x1 x2 S = some res) : W p l e (headSpec wsX1_unite rmX1_unite).room s m args below meth c H locs 0 0 (MQ below (va_Qv (fun (u : teS) => u = res) (fun u t => teR D cy ad ba O u t.heap) (teA ba)) args s 0 0 (teA ba)) (F0 m 0 ls []) := by
  have hx := X.1
  have hb := X.2.1
  have hown := X.2.2.2.2.1
  unfold fX1_unite at hf
  refine lv_aload_n hx hb dX1_unite_0 rfl (lv_at hl 0 rfl) ?_
  refine rg_1_0 X hR hk0 iX1_unite_1 wX1_unite_11 dX1_unite_1 ?_
  refine lv_iload_n hx hb dX1_unite_4 rfl (lv_at hl 1 rfl) ?_
  obtain ⟨h_1, hf⟩ := chk_some hf
  refine ra_mem X hR hk0 h_1 dX1_unite_5 ?_
  refine lv_iload_n hx hb dX1_unite_6 rfl (lv_at hl 2 rfl) ?_
  refine rp_3_5 X hR hS hk0 (tein_lt h_1) iX1_unite_3 wX1_unite_29 dX1_unite_7 (fun H locs hR hS => ?_)
  generalize teu S k0 (2 + 10 * x1.toNatClampNeg + 8) x2 = S1 at hf hR
  replace hf := lt1_e hf
  refine lv_aload_n hx hb dX1_unite_10 rfl (lv_at hl 0 rfl) ?_
  refine rg_1_0 X hR hk0 iX1_unite_1 wX1_unite_11 dX1_unite_11 ?_
  refine lv_iload_n hx hb dX1_unite_14 rfl (lv_at hl 2 rfl) ?_
  obtain ⟨h_2, hf⟩ := chk_some hf
  refine ra_mem X hR hk0 h_2 dX1_unite_15 ?_
  refine lv_iload_n hx hb dX1_unite_16 rfl (lv_at hl 1 rfl) ?_
  refine rp_3_5 X hR hS hk0 (tein_lt h_2) iX1_unite_3 wX1_unite_29 dX1_unite_17 (fun H locs hR hS => ?_)
  generalize teu S1 k0 (2 + 10 * x2.toNatClampNeg + 8) x1 = S2 at hf hR
  replace hf := lt1_e hf
  refine lv_aload_n hx hb dX1_unite_20 rfl (lv_at hl 0 rfl) ?_
  refine rg_1_0 X hR hk0 iX1_unite_1 wX1_unite_11 dX1_unite_21 ?_
  refine lv_iload_n hx hb dX1_unite_24 rfl (lv_at hl 1 rfl) ?_
  refine ra_mem X hR hk0 h_1 dX1_unite_25 ?_
  refine lv_iconst (v := (0 : Int32)) hx hb dX1_unite_26 (by decide) ?_
  refine rp_3_6 X hR hS hk0 (tein_lt h_1) iX1_unite_3 wX1_unite_55 dX1_unite_27 (fun H locs hR hS => ?_)
  generalize teu S2 k0 (2 + 10 * x1.toNatClampNeg + 9) (0 : Int32) = S3 at hf hR
  replace hf := lt1_e hf
  refine lv_aload_n hx hb dX1_unite_30 rfl (lv_at hl 0 rfl) ?_
  refine rg_1_0 X hR hk0 iX1_unite_1 wX1_unite_11 dX1_unite_31 ?_
  refine lv_iload_n hx hb dX1_unite_34 rfl (lv_at hl 2 rfl) ?_
  refine ra_mem X hR hk0 h_2 dX1_unite_35 ?_
  refine lv_iconst (v := (0 : Int32)) hx hb dX1_unite_36 (by decide) ?_
  refine rp_3_6 X hR hS hk0 (tein_lt h_2) iX1_unite_3 wX1_unite_55 dX1_unite_37 (fun H locs hR hS => ?_)
  generalize teu S3 k0 (2 + 10 * x2.toNatClampNeg + 9) (0 : Int32) = S4 at hf hR
  replace hf := lt1_e hf
  exact eV X hR hS (Option.some.inj hf) dX1_unite_40
theorem zcX1_unite (l : Launch) (D : va_G) (cy : Nat → ClassId) (ad : Nat → Nat) (ba : Nat → Prop) (O : Int64) (S : teS) (k0 : Nat) (x1 : Int32) (x2 : Int32) (hk0 : k0 < 18) (res : teS) (hf : fX1_unite k0 x1 x2 S = some res) : cV l yX1_unite wsX1_unite rmX1_unite D cy ad ba O S [.ref (ad (20 * k0)), .int x1, .int x2] res :=
  te_of (by decide +kernel) rfl (Nat.le_of_ble_eq_true rfl) (fun p e s m below meth c ls X hR hS hl => bX1_unite_0 (S := S) (k0 := k0) (x1 := x1) (x2 := x2) hk0 X _ _ _ hR hS hl hf)
abbrev rmX1_uniteBestFreePair : Room := { frames := 3, cells := 0, slots := 0, locals := 68 }
theorem kdX1_uniteBestFreePair : yX1_uniteBestFreePair.cls = RX1 ∧ yX1_uniteBestFreePair.cls ≠ "java/lang/invoke/MethodHandle" ∧ yX1_uniteBestFreePair.cls ≠ "java/lang/invoke/VarHandle" ∧ (parseMethodDescriptor yX1_uniteBestFreePair.desc).map (fun d => d.parameters.length) = some 0 := by decide +kernel
theorem wX1_uniteBestFreePair_18 : Cond.fieldLink RX1 18 "TandemExchange$Circle" "size" "I" ∈ wsX1_uniteBestFreePair := by decide +kernel
theorem iX1_uniteBestFreePair_1 : ∀ w ∈ wsX10, w ∈ wsX1_uniteBestFreePair := by decide +kernel
set_option maxRecDepth 100000 in
set_option maxHeartbeats 4000000 in
theorem bX1_uniteBestFreePair_67 {p : Program} {l : Launch} {e : Env} {s : State} {m : MethodId} {args : Array Value} {below : List Frame} {meth : Method} {c : Code} {D : va_G} {cy : Nat → ClassId} {ad : Nat → Nat} {ba : Nat → Prop} {O : Int64} {S : teS}  {k0 : Nat} {res : (Int32 × teS)} (hk0 : k0 < 18) (X : teC wsX1_uniteBestFreePair RX1 cX1_uniteBestFreePair 6 (some .boolean) D cy ba p s m args meth c) {q13 : teS → Int32 → Int32 → Int32 → Int32 → Option (Int32 × teS)} (hq13 : ∀ (S1 : teS) (v1 : Int32) (v2 : Int32) (v3 : Int32) (v4 : Int32) (H : Heap) (locs : List Loc) (ls : Array Slot), teR D cy ad ba O S1 H → va_S (teA ba) s.heap H locs → lv_has ls 6 [(0, .ref (ad (20 * k0))), (1, .int v1), (2, .int v2), (3, .int v3), (4, .int v4)] → q13 S1 v1 v2 v3 v4 = some res → W p l e (headSpec wsX1_uniteBestFreePair rmX1_uniteBestFreePair).room s m args below meth c H locs 0 0 (MQ below (va_Qi (fun a (u : teS) => a = res.1 ∧ u = res.2) (fun u t => teR D cy ad ba O u t.heap) (teA ba)) args s 0 0 (teA ba)) (F0 m 13 ls [])) {q28 : teS → Int32 → Int32 → Int32 → Int32 → Int32 → Option (Int32 × teS)} (hq28 : ∀ (S1 : teS) (v1 : Int32) (v2 : Int32) (v3 : Int32) (v4 : Int32) (v5 : Int32) (H : Heap) (locs : List Loc) (ls : Array Slot), teR D cy ad ba O S1 H → va_S (teA ba) s.heap H locs → lv_has ls 6 [(0, .ref (ad (20 * k0))), (1, .int v1), (2, .int v2), (3, .int v3), (4, .int v4), (5, .int v5)] → q28 S1 v1 v2 v3 v4 v5 = some res → W p l e (headSpec wsX1_uniteBestFreePair rmX1_uniteBestFreePair).room s m args below meth c H locs 0 0 (MQ below (va_Qi (fun a (u : teS) => a = res.1 ∧ u = res.2) (fun u t => teR D cy ad ba O u t.heap) (teA ba)) args s 0 0 (teA ba)) (F0 m 28 ls [])) : ∀ (S1 : teS) (v4 : Int32) (v5 : Int32) (H : Heap) (locs : List Loc) (ls : Array Slot), teR D cy ad ba O S1 H → va_S (teA ba) s.heap H locs → lv_has ls 6 [(0, .ref (ad (20 * k0))), (4, .int v4), (5, .int v5)] → fX1_uniteBestFreePair_67 k0 q13 q28 S1 v4 v5 = some res → W p l e (headSpec wsX1_uniteBestFreePair rmX1_uniteBestFreePair).room s m args below meth c H locs 0 0 (MQ below (va_Qi (fun a (u : teS) => a = res.1 ∧ u = res.2) (fun u t => teR D cy ad ba O u t.heap) (teA ba)) args s 0 0 (teA ba)) (F0 m 67 ls []) := by
  have hx := X.1
  have hb := X.2.1
  have hown := X.2.2.2.2.1
  intro S1 v4 v5 H locs ls hR hS hl hf
  unfold fX1_uniteBestFreePair_67 at hf
  refine lv_iload hx hb dX1_uniteBestFreePair_67 (lv_at hl 1 rfl) ?_
  refine lv_istore_n (lv' := [(1, .int v4), (0, .ref (ad (20 * k0))), (4, .int v4), (5, .int v5)]) hx hb dX1_uniteBestFreePair_69 rfl hl (by decide) rfl (fun ls hl => ?_)
  refine lv_iload hx hb dX1_uniteBestFreePair_70 (lv_at hl 3 rfl) ?_
  refine lv_istore_n (lv' := [(2, .int v5), (1, .int v4), (0, .ref (ad (20 * k0))), (4, .int v4), (5, .int v5)]) hx hb dX1_uniteBestFreePair_72 rfl hl (by decide) rfl (fun ls hl => ?_)
  refine lv_aload_n hx hb dX1_uniteBestFreePair_73 rfl (lv_at hl 2 rfl) ?_
  refine lv_iload hx hb dX1_uniteBestFreePair_74 (lv_at hl 3 rfl) ?_
  refine lv_iload hx hb dX1_uniteBestFreePair_76 (lv_at hl 4 rfl) ?_
  obtain ⟨r_18, hq_19, hf⟩ := bd1_some hf
  refine kVi (id := (20 * k0)) (As := [.int v4, .int v5]) (rest := []) X hR hS (zcX1_value l D cy ad ba O S1 k0 v4 v5 hk0 _ hq_19) (cwV 2 X.2.2.2.2.2.1 gX1_uniteBestFreePair_X1_value rfl rfl rfl kdX1_value ⟨(Nat.le_of_ble_eq_true rfl), (Nat.le_of_ble_eq_true rfl)⟩) (te_idc hk0) (teE_circ cy ad O S1 hk0) rfl rfl rfl hl.1 (Nat.le_of_ble_eq_true rfl) ⟨(Nat.le_of_ble_eq_true rfl), (Nat.le_of_ble_eq_true rfl)⟩ dX1_uniteBestFreePair_78 (fun H locs hR hS => ?_)
  refine lv_istore_n (lv' := [(3, .int r_18), (2, .int v5), (1, .int v4), (0, .ref (ad (20 * k0))), (4, .int v4), (5, .int v5)]) hx hb dX1_uniteBestFreePair_81 rfl hl (by decide) rfl (fun ls hl => ?_)
  refine lv_iinc (v := (v5 + (1 : Int32))) (lv' := [(5, .int (v5 + (1 : Int32))), (3, .int r_18), (2, .int v5), (1, .int v4), (0, .ref (ad (20 * k0))), (4, .int v4)]) hx hb dX1_uniteBestFreePair_82 hl (k := 5) rfl rfl (by decide) rfl (fun ls hl => ?_)
  refine lv_goto (tgt := 28) hx hb dX1_uniteBestFreePair_85 (by decide) ?_
  exact hq28 S1 (v4) (v5) (r_18) (v4) ((v5 + (1 : Int32))) _ _ _ hR hS (lv_sub hl [4, 3, 2, 1, 5, 0] rfl) hf
set_option maxRecDepth 100000 in
set_option maxHeartbeats 4000000 in
theorem bX1_uniteBestFreePair_28 {p : Program} {l : Launch} {e : Env} {s : State} {m : MethodId} {args : Array Value} {below : List Frame} {meth : Method} {c : Code} {D : va_G} {cy : Nat → ClassId} {ad : Nat → Nat} {ba : Nat → Prop} {O : Int64} {S : teS}  {k0 : Nat} {res : (Int32 × teS)} (hk0 : k0 < 18) (X : teC wsX1_uniteBestFreePair RX1 cX1_uniteBestFreePair 6 (some .boolean) D cy ba p s m args meth c) {q13 : teS → Int32 → Int32 → Int32 → Int32 → Option (Int32 × teS)} (hq13 : ∀ (S1 : teS) (v1 : Int32) (v2 : Int32) (v3 : Int32) (v4 : Int32) (H : Heap) (locs : List Loc) (ls : Array Slot), teR D cy ad ba O S1 H → va_S (teA ba) s.heap H locs → lv_has ls 6 [(0, .ref (ad (20 * k0))), (1, .int v1), (2, .int v2), (3, .int v3), (4, .int v4)] → q13 S1 v1 v2 v3 v4 = some res → W p l e (headSpec wsX1_uniteBestFreePair rmX1_uniteBestFreePair).room s m args below meth c H locs 0 0 (MQ below (va_Qi (fun a (u : teS) => a = res.1 ∧ u = res.2) (fun u t => teR D cy ad ba O u t.heap) (teA ba)) args s 0 0 (teA ba)) (F0 m 13 ls [])) : ∀ (n : Nat), ∀ (S1 : teS) (v1 : Int32) (v2 : Int32) (v3 : Int32) (v4 : Int32) (v5 : Int32) (H : Heap) (locs : List Loc) (ls : Array Slot), teR D cy ad ba O S1 H → va_S (teA ba) s.heap H locs → lv_has ls 6 [(0, .ref (ad (20 * k0))), (1, .int v1), (2, .int v2), (3, .int v3), (4, .int v4), (5, .int v5)] → fX1_uniteBestFreePair_28 k0 q13 n S1 v1 v2 v3 v4 v5 = some res → W p l e (headSpec wsX1_uniteBestFreePair rmX1_uniteBestFreePair).room s m args below meth c H locs 0 0 (MQ below (va_Qi (fun a (u : teS) => a = res.1 ∧ u = res.2) (fun u t => teR D cy ad ba O u t.heap) (teA ba)) args s 0 0 (teA ba)) (F0 m 28 ls []) := by
  have hx := X.1
  have hb := X.2.1
  have hown := X.2.2.2.2.1
  intro n
  induction n with
  | zero =>
    intro S1 v1 v2 v3 v4 v5 H locs ls hR hS hl hf
    exact nomatch hf
  | succ n ih =>
    intro S1 v1 v2 v3 v4 v5 H locs ls hR hS hl hf
    unfold fX1_uniteBestFreePair_28 at hf
    refine lv_iload hx hb dX1_uniteBestFreePair_28 (lv_at hl 5 rfl) ?_
    refine lv_aload_n hx hb dX1_uniteBestFreePair_30 rfl (lv_at hl 0 rfl) ?_
    refine rg_1_1 X hR hk0 iX1_uniteBestFreePair_1 wX1_uniteBestFreePair_18 dX1_uniteBestFreePair_31 ?_
    refine lv_icmp_ge (tgt := 88) hx hb dX1_uniteBestFreePair_34 (by decide) (fun c_10 => ?_) (fun c_10 => ?_)
    · replace hf := ite_t c_10 hf
      refine lv_iinc (v := (v4 + (1 : Int32))) (lv' := [(4, .int (v4 + (1 : Int32))), (0, .ref (ad (20 * k0))), (1, .int v1), (2, .int v2), (3, .int v3), (5, .int v5)]) hx hb dX1_uniteBestFreePair_88 hl (k := 4) rfl rfl (by decide) rfl (fun ls hl => ?_)
      refine lv_goto (tgt := 13) hx hb dX1_uniteBestFreePair_91 (by decide) ?_
      exact hq13 S1 (v1) (v2) (v3) ((v4 + (1 : Int32))) _ _ _ hR hS (lv_sub hl [1, 2, 3, 4, 0] rfl) hf
    · replace hf := ite_f c_10 hf
      refine lv_aload_n hx hb dX1_uniteBestFreePair_37 rfl (lv_at hl 0 rfl) ?_
      refine lv_iload hx hb dX1_uniteBestFreePair_38 (lv_at hl 4 rfl) ?_
      refine lv_iload hx hb dX1_uniteBestFreePair_40 (lv_at hl 5 rfl) ?_
      obtain ⟨r_11, hq_12, hf⟩ := bd1_some hf
      refine kVi (id := (20 * k0)) (As := [.int v4, .int v5]) (rest := []) X hR hS (zcX1_canBecomePartners l D cy ad ba O S1 k0 v4 v5 hk0 _ hq_12) (cwV 2 X.2.2.2.2.2.1 gX1_uniteBestFreePair_X1_canBecomePartners rfl rfl rfl kdX1_canBecomePartners ⟨(Nat.le_of_ble_eq_true rfl), (Nat.le_of_ble_eq_true rfl)⟩) (te_idc hk0) (teE_circ cy ad O S1 hk0) rfl rfl rfl hl.1 (Nat.le_of_ble_eq_true rfl) ⟨(Nat.le_of_ble_eq_true rfl), (Nat.le_of_ble_eq_true rfl)⟩ dX1_uniteBestFreePair_42 (fun H locs hR hS => ?_)
      refine lv_if_eq (tgt := 82) hx hb dX1_uniteBestFreePair_45 (by decide) (fun c_13 => ?_) (fun c_13 => ?_)
      · replace hf := ite_t c_13 hf
        refine lv_iinc (v := (v5 + (1 : Int32))) (lv' := [(5, .int (v5 + (1 : Int32))), (0, .ref (ad (20 * k0))), (1, .int v1), (2, .int v2), (3, .int v3), (4, .int v4)]) hx hb dX1_uniteBestFreePair_82 hl (k := 5) rfl rfl (by decide) rfl (fun ls hl => ?_)
        refine lv_goto (tgt := 28) hx hb dX1_uniteBestFreePair_85 (by decide) ?_
        exact ih S1 (v1) (v2) (v3) (v4) ((v5 + (1 : Int32))) _ _ _ hR hS (lv_sub hl [1, 2, 3, 4, 5, 0] rfl) hf
      · replace hf := ite_f c_13 hf
        refine lv_iload_n hx hb dX1_uniteBestFreePair_48 rfl (lv_at hl 1 rfl) ?_
        refine lv_sipush (v := (-9999 : Int32)) hx hb dX1_uniteBestFreePair_49 (by decide) ?_
        refine lv_icmp_eq (tgt := 67) hx hb dX1_uniteBestFreePair_52 (by decide) (fun c_14 => ?_) (fun c_14 => ?_)
        · replace hf := ite_t c_14 hf
          exact bX1_uniteBestFreePair_67 (S := S) (k0 := k0) hk0 X hq13 ih S1 (v4) (v5) _ _ _ hR hS (lv_sub hl [0, 4, 5] rfl) hf
        · replace hf := ite_f c_14 hf
          refine lv_aload_n hx hb dX1_uniteBestFreePair_55 rfl (lv_at hl 0 rfl) ?_
          refine lv_iload hx hb dX1_uniteBestFreePair_56 (lv_at hl 4 rfl) ?_
          refine lv_iload hx hb dX1_uniteBestFreePair_58 (lv_at hl 5 rfl) ?_
          obtain ⟨r_15, hq_16, hf⟩ := bd1_some hf
          refine kVi (id := (20 * k0)) (As := [.int v4, .int v5]) (rest := []) X hR hS (zcX1_value l D cy ad ba O S1 k0 v4 v5 hk0 _ hq_16) (cwV 2 X.2.2.2.2.2.1 gX1_uniteBestFreePair_X1_value rfl rfl rfl kdX1_value ⟨(Nat.le_of_ble_eq_true rfl), (Nat.le_of_ble_eq_true rfl)⟩) (te_idc hk0) (teE_circ cy ad O S1 hk0) rfl rfl rfl hl.1 (Nat.le_of_ble_eq_true rfl) ⟨(Nat.le_of_ble_eq_true rfl), (Nat.le_of_ble_eq_true rfl)⟩ dX1_uniteBestFreePair_60 (fun H locs hR hS => ?_)
          refine lv_iload_n hx hb dX1_uniteBestFreePair_63 rfl (lv_at hl 3 rfl) ?_
          refine lv_icmp_le (tgt := 82) hx hb dX1_uniteBestFreePair_64 (by decide) (fun c_17 => ?_) (fun c_17 => ?_)
          · replace hf := ite_t c_17 hf
            refine lv_iinc (v := (v5 + (1 : Int32))) (lv' := [(5, .int (v5 + (1 : Int32))), (0, .ref (ad (20 * k0))), (1, .int v1), (2, .int v2), (3, .int v3), (4, .int v4)]) hx hb dX1_uniteBestFreePair_82 hl (k := 5) rfl rfl (by decide) rfl (fun ls hl => ?_)
            refine lv_goto (tgt := 28) hx hb dX1_uniteBestFreePair_85 (by decide) ?_
            exact ih S1 (v1) (v2) (v3) (v4) ((v5 + (1 : Int32))) _ _ _ hR hS (lv_sub hl [1, 2, 3, 4, 5, 0] rfl) hf
          · replace hf := ite_f c_17 hf
            exact bX1_uniteBestFreePair_67 (S := S) (k0 := k0) hk0 X hq13 ih S1 (v4) (v5) _ _ _ hR hS (lv_sub hl [0, 4, 5] rfl) hf
set_option maxRecDepth 100000 in
set_option maxHeartbeats 4000000 in
theorem bX1_uniteBestFreePair_13 {p : Program} {l : Launch} {e : Env} {s : State} {m : MethodId} {args : Array Value} {below : List Frame} {meth : Method} {c : Code} {D : va_G} {cy : Nat → ClassId} {ad : Nat → Nat} {ba : Nat → Prop} {O : Int64} {S : teS}  {k0 : Nat} {res : (Int32 × teS)} (hk0 : k0 < 18) (X : teC wsX1_uniteBestFreePair RX1 cX1_uniteBestFreePair 6 (some .boolean) D cy ba p s m args meth c) : ∀ (n : Nat), ∀ (S1 : teS) (v1 : Int32) (v2 : Int32) (v3 : Int32) (v4 : Int32) (H : Heap) (locs : List Loc) (ls : Array Slot), teR D cy ad ba O S1 H → va_S (teA ba) s.heap H locs → lv_has ls 6 [(0, .ref (ad (20 * k0))), (1, .int v1), (2, .int v2), (3, .int v3), (4, .int v4)] → fX1_uniteBestFreePair_13 k0 n S1 v1 v2 v3 v4 = some res → W p l e (headSpec wsX1_uniteBestFreePair rmX1_uniteBestFreePair).room s m args below meth c H locs 0 0 (MQ below (va_Qi (fun a (u : teS) => a = res.1 ∧ u = res.2) (fun u t => teR D cy ad ba O u t.heap) (teA ba)) args s 0 0 (teA ba)) (F0 m 13 ls []) := by
  have hx := X.1
  have hb := X.2.1
  have hown := X.2.2.2.2.1
  intro n
  induction n with
  | zero =>
    intro S1 v1 v2 v3 v4 H locs ls hR hS hl hf
    exact nomatch hf
  | succ n ih =>
    intro S1 v1 v2 v3 v4 H locs ls hR hS hl hf
    unfold fX1_uniteBestFreePair_13 at hf
    refine lv_iload hx hb dX1_uniteBestFreePair_13 (lv_at hl 4 rfl) ?_
    refine lv_aload_n hx hb dX1_uniteBestFreePair_15 rfl (lv_at hl 0 rfl) ?_
    refine rg_1_1 X hR hk0 iX1_uniteBestFreePair_1 wX1_uniteBestFreePair_18 dX1_uniteBestFreePair_16 ?_
    refine lv_icmp_ge (tgt := 94) hx hb dX1_uniteBestFreePair_19 (by decide) (fun c_1 => ?_) (fun c_1 => ?_)
    · replace hf := ite_t c_1 hf
      refine lv_aload_n hx hb dX1_uniteBestFreePair_94 rfl (lv_at hl 0 rfl) ?_
      refine lv_iload_n hx hb dX1_uniteBestFreePair_95 rfl (lv_at hl 1 rfl) ?_
      obtain ⟨r_2, hq_3, hf⟩ := bd1_some hf
      refine kVi (id := (20 * k0)) (As := [.int v1]) (rest := []) X hR hS (zcX1_has l D cy ad ba O S1 k0 v1 hk0 _ hq_3) (cwV 1 X.2.2.2.2.2.1 gX1_uniteBestFreePair_X1_has rfl rfl rfl kdX1_has ⟨(Nat.le_of_ble_eq_true rfl), (Nat.le_of_ble_eq_true rfl)⟩) (te_idc hk0) (teE_circ cy ad O S1 hk0) rfl rfl rfl hl.1 (Nat.le_of_ble_eq_true rfl) ⟨(Nat.le_of_ble_eq_true rfl), (Nat.le_of_ble_eq_true rfl)⟩ dX1_uniteBestFreePair_96 (fun H locs hR hS => ?_)
      refine lv_if_eq (tgt := 110) hx hb dX1_uniteBestFreePair_99 (by decide) (fun c_4 => ?_) (fun c_4 => ?_)
      · replace hf := ite_t c_4 hf
        refine lv_iconst (v := (0 : Int32)) hx hb dX1_uniteBestFreePair_110 (by decide) ?_
        exact eZ X hR hS (by decide) (congrArg Prod.fst (Option.some.inj hf)) (congrArg Prod.snd (Option.some.inj hf)) dX1_uniteBestFreePair_111
      · replace hf := ite_f c_4 hf
        refine lv_aload_n hx hb dX1_uniteBestFreePair_102 rfl (lv_at hl 0 rfl) ?_
        refine lv_iload_n hx hb dX1_uniteBestFreePair_103 rfl (lv_at hl 2 rfl) ?_
        obtain ⟨r_5, hq_6, hf⟩ := bd1_some hf
        refine kVi (id := (20 * k0)) (As := [.int v2]) (rest := []) X hR hS (zcX1_has l D cy ad ba O S1 k0 v2 hk0 _ hq_6) (cwV 1 X.2.2.2.2.2.1 gX1_uniteBestFreePair_X1_has rfl rfl rfl kdX1_has ⟨(Nat.le_of_ble_eq_true rfl), (Nat.le_of_ble_eq_true rfl)⟩) (te_idc hk0) (teE_circ cy ad O S1 hk0) rfl rfl rfl hl.1 (Nat.le_of_ble_eq_true rfl) ⟨(Nat.le_of_ble_eq_true rfl), (Nat.le_of_ble_eq_true rfl)⟩ dX1_uniteBestFreePair_104 (fun H locs hR hS => ?_)
        refine lv_if_ne (tgt := 112) hx hb dX1_uniteBestFreePair_107 (by decide) (fun c_7 => ?_) (fun c_7 => ?_)
        · replace hf := ite_f c_7 hf
          refine lv_aload_n hx hb dX1_uniteBestFreePair_112 rfl (lv_at hl 0 rfl) ?_
          refine lv_iload_n hx hb dX1_uniteBestFreePair_113 rfl (lv_at hl 1 rfl) ?_
          refine lv_iload_n hx hb dX1_uniteBestFreePair_114 rfl (lv_at hl 2 rfl) ?_
          obtain ⟨S2, hq_9, hf⟩ := bd1_some hf
          refine kVv (id := (20 * k0)) (As := [.int v1, .int v2]) (rest := []) X hR hS (zcX1_unite l D cy ad ba O S1 k0 v1 v2 hk0 _ hq_9) (cwV 2 X.2.2.2.2.2.1 gX1_uniteBestFreePair_X1_unite rfl rfl rfl kdX1_unite ⟨(Nat.le_of_ble_eq_true rfl), (Nat.le_of_ble_eq_true rfl)⟩) (te_idc hk0) (teE_circ cy ad O S1 hk0) rfl rfl rfl hl.1 (Nat.le_of_ble_eq_true rfl) ⟨(Nat.le_of_ble_eq_true rfl), (Nat.le_of_ble_eq_true rfl)⟩ dX1_uniteBestFreePair_115 (fun H locs hR hS => ?_)
          refine lv_iconst (v := (1 : Int32)) hx hb dX1_uniteBestFreePair_118 (by decide) ?_
          exact eZ X hR hS (by decide) (congrArg Prod.fst (Option.some.inj hf)) (congrArg Prod.snd (Option.some.inj hf)) dX1_uniteBestFreePair_119
        · replace hf := ite_t c_7 hf
          refine lv_iconst (v := (0 : Int32)) hx hb dX1_uniteBestFreePair_110 (by decide) ?_
          exact eZ X hR hS (by decide) (congrArg Prod.fst (Option.some.inj hf)) (congrArg Prod.snd (Option.some.inj hf)) dX1_uniteBestFreePair_111
    · replace hf := ite_f c_1 hf
      refine lv_iload hx hb dX1_uniteBestFreePair_22 (lv_at hl 4 rfl) ?_
      refine lv_iconst (v := (1 : Int32)) hx hb dX1_uniteBestFreePair_24 (by decide) ?_
      refine lv_iadd hx hb dX1_uniteBestFreePair_25 ?_
      refine lv_istore (lv' := [(5, .int (v4 + (1 : Int32))), (0, .ref (ad (20 * k0))), (1, .int v1), (2, .int v2), (3, .int v3), (4, .int v4)]) hx hb dX1_uniteBestFreePair_26 hl (by decide) rfl (fun ls hl => ?_)
      exact bX1_uniteBestFreePair_28 (S := S) (k0 := k0) hk0 X ih 2000 S1 (v1) (v2) (v3) (v4) ((v4 + (1 : Int32))) _ _ _ hR hS (lv_sub hl [1, 2, 3, 4, 5, 0] rfl) hf
set_option maxRecDepth 100000 in
set_option maxHeartbeats 4000000 in
theorem bX1_uniteBestFreePair_0 {p : Program} {l : Launch} {e : Env} {s : State} {m : MethodId} {args : Array Value} {below : List Frame} {meth : Method} {c : Code} {D : va_G} {cy : Nat → ClassId} {ad : Nat → Nat} {ba : Nat → Prop} {O : Int64} {S : teS}  {k0 : Nat} {res : (Int32 × teS)} (hk0 : k0 < 18) (X : teC wsX1_uniteBestFreePair RX1 cX1_uniteBestFreePair 6 (some .boolean) D cy ba p s m args meth c) (H : Heap) (locs : List Loc) (ls : Array Slot) (hR : teR D cy ad ba O S H) (hS : va_S (teA ba) s.heap H locs) (hl : lv_has ls 6 [(0, .ref (ad (20 * k0)))]) (hf : fX1_uniteBestFreePair k0 S = some res) : W p l e (headSpec wsX1_uniteBestFreePair rmX1_uniteBestFreePair).room s m args below meth c H locs 0 0 (MQ below (va_Qi (fun a (u : teS) => a = res.1 ∧ u = res.2) (fun u t => teR D cy ad ba O u t.heap) (teA ba)) args s 0 0 (teA ba)) (F0 m 0 ls []) := by
  have hx := X.1
  have hb := X.2.1
  have hown := X.2.2.2.2.1
  unfold fX1_uniteBestFreePair at hf
  refine lv_sipush (v := (-9999 : Int32)) hx hb dX1_uniteBestFreePair_0 (by decide) ?_
  refine lv_istore_n (lv' := [(1, .int (-9999 : Int32)), (0, .ref (ad (20 * k0)))]) hx hb dX1_uniteBestFreePair_3 rfl hl (by decide) rfl (fun ls hl => ?_)
  refine lv_sipush (v := (-9999 : Int32)) hx hb dX1_uniteBestFreePair_4 (by decide) ?_
  refine lv_istore_n (lv' := [(2, .int (-9999 : Int32)), (1, .int (-9999 : Int32)), (0, .ref (ad (20 * k0)))]) hx hb dX1_uniteBestFreePair_7 rfl hl (by decide) rfl (fun ls hl => ?_)
  refine lv_iconst (v := (0 : Int32)) hx hb dX1_uniteBestFreePair_8 (by decide) ?_
  refine lv_istore_n (lv' := [(3, .int (0 : Int32)), (2, .int (-9999 : Int32)), (1, .int (-9999 : Int32)), (0, .ref (ad (20 * k0)))]) hx hb dX1_uniteBestFreePair_9 rfl hl (by decide) rfl (fun ls hl => ?_)
  refine lv_iconst (v := (0 : Int32)) hx hb dX1_uniteBestFreePair_10 (by decide) ?_
  refine lv_istore (lv' := [(4, .int (0 : Int32)), (3, .int (0 : Int32)), (2, .int (-9999 : Int32)), (1, .int (-9999 : Int32)), (0, .ref (ad (20 * k0)))]) hx hb dX1_uniteBestFreePair_11 hl (by decide) rfl (fun ls hl => ?_)
  exact bX1_uniteBestFreePair_13 (S := S) (k0 := k0) hk0 X 2000 S ((-9999 : Int32)) ((-9999 : Int32)) ((0 : Int32)) ((0 : Int32)) _ _ _ hR hS (lv_sub hl [4, 3, 2, 1, 0] rfl) hf
theorem zcX1_uniteBestFreePair (l : Launch) (D : va_G) (cy : Nat → ClassId) (ad : Nat → Nat) (ba : Nat → Prop) (O : Int64) (S : teS) (k0 : Nat) (hk0 : k0 < 18) (r : Int32) (S1 : teS) (hf : fX1_uniteBestFreePair k0 S = some (r, S1)) : cI l yX1_uniteBestFreePair wsX1_uniteBestFreePair rmX1_uniteBestFreePair D cy ad ba O S [.ref (ad (20 * k0))] r S1 :=
  te_of (by decide) rfl (Nat.le_of_ble_eq_true rfl) (fun p e s m below meth c ls X hR hS hl => bX1_uniteBestFreePair_0 (res := (r, S1)) (S := S) (k0 := k0) hk0 X _ _ _ hR hS hl hf)
abbrev rmX1_matchFree : Room := { frames := 4, cells := 0, slots := 0, locals := 93 }
theorem kdX1_matchFree : yX1_matchFree.cls = RX1 ∧ yX1_matchFree.cls ≠ "java/lang/invoke/MethodHandle" ∧ yX1_matchFree.cls ≠ "java/lang/invoke/VarHandle" ∧ (parseMethodDescriptor yX1_matchFree.desc).map (fun d => d.parameters.length) = some 0 := by decide +kernel
set_option maxRecDepth 100000 in
set_option maxHeartbeats 4000000 in
theorem bX1_matchFree_2 {p : Program} {l : Launch} {e : Env} {s : State} {m : MethodId} {args : Array Value} {below : List Frame} {meth : Method} {c : Code} {D : va_G} {cy : Nat → ClassId} {ad : Nat → Nat} {ba : Nat → Prop} {O : Int64} {S : teS}  {k0 : Nat} {res : (Int32 × teS)} (hk0 : k0 < 18) (X : teC wsX1_matchFree RX1 cX1_matchFree 2 (some .int) D cy ba p s m args meth c) : ∀ (n : Nat), ∀ (S1 : teS) (v1 : Int32) (H : Heap) (locs : List Loc) (ls : Array Slot), teR D cy ad ba O S1 H → va_S (teA ba) s.heap H locs → lv_has ls 2 [(0, .ref (ad (20 * k0))), (1, .int v1)] → fX1_matchFree_2 k0 n S1 v1 = some res → W p l e (headSpec wsX1_matchFree rmX1_matchFree).room s m args below meth c H locs 0 0 (MQ below (va_Qi (fun a (u : teS) => a = res.1 ∧ u = res.2) (fun u t => teR D cy ad ba O u t.heap) (teA ba)) args s 0 0 (teA ba)) (F0 m 2 ls []) := by
  have hx := X.1
  have hb := X.2.1
  have hown := X.2.2.2.2.1
  intro n
  induction n with
  | zero =>
    intro S1 v1 H locs ls hR hS hl hf
    exact nomatch hf
  | succ n ih =>
    intro S1 v1 H locs ls hR hS hl hf
    unfold fX1_matchFree_2 at hf
    refine lv_iload_n hx hb dX1_matchFree_2 rfl (lv_at hl 1 rfl) ?_
    refine lv_iconst (v := (4 : Int32)) hx hb dX1_matchFree_3 (by decide) ?_
    refine lv_icmp_ge (tgt := 20) hx hb dX1_matchFree_4 (by decide) (fun c_1 => ?_) (fun c_1 => ?_)
    · replace hf := ite_t c_1 hf
      refine lv_iload_n hx hb dX1_matchFree_20 rfl (lv_at hl 1 rfl) ?_
      exact eI X hR hS (congrArg Prod.fst (Option.some.inj hf)) (congrArg Prod.snd (Option.some.inj hf)) dX1_matchFree_21
    · replace hf := ite_f c_1 hf
      refine lv_aload_n hx hb dX1_matchFree_7 rfl (lv_at hl 0 rfl) ?_
      obtain ⟨r_2, S2, hq_3, hf⟩ := bd2_some hf
      refine kVi (id := (20 * k0)) (As := []) (rest := []) X hR hS (zcX1_uniteBestFreePair l D cy ad ba O S1 k0 hk0 _ _ hq_3) (cwV 0 X.2.2.2.2.2.1 gX1_matchFree_X1_uniteBestFreePair rfl rfl rfl kdX1_uniteBestFreePair ⟨(Nat.le_of_ble_eq_true rfl), (Nat.le_of_ble_eq_true rfl)⟩) (te_idc hk0) (teE_circ cy ad O S1 hk0) rfl rfl rfl hl.1 (Nat.le_of_ble_eq_true rfl) ⟨(Nat.le_of_ble_eq_true rfl), (Nat.le_of_ble_eq_true rfl)⟩ dX1_matchFree_8 (fun H locs hR hS => ?_)
      refine lv_if_eq (tgt := 20) hx hb dX1_matchFree_11 (by decide) (fun c_4 => ?_) (fun c_4 => ?_)
      · replace hf := ite_t c_4 hf
        refine lv_iload_n hx hb dX1_matchFree_20 rfl (lv_at hl 1 rfl) ?_
        exact eI X hR hS (congrArg Prod.fst (Option.some.inj hf)) (congrArg Prod.snd (Option.some.inj hf)) dX1_matchFree_21
      · replace hf := ite_f c_4 hf
        refine lv_iinc (v := (v1 + (1 : Int32))) (lv' := [(1, .int (v1 + (1 : Int32))), (0, .ref (ad (20 * k0)))]) hx hb dX1_matchFree_14 hl (k := 1) rfl rfl (by decide) rfl (fun ls hl => ?_)
        refine lv_goto (tgt := 2) hx hb dX1_matchFree_17 (by decide) ?_
        exact ih S2 ((v1 + (1 : Int32))) _ _ _ hR hS (lv_sub hl [1, 0] rfl) hf
set_option maxRecDepth 100000 in
set_option maxHeartbeats 4000000 in
theorem bX1_matchFree_0 {p : Program} {l : Launch} {e : Env} {s : State} {m : MethodId} {args : Array Value} {below : List Frame} {meth : Method} {c : Code} {D : va_G} {cy : Nat → ClassId} {ad : Nat → Nat} {ba : Nat → Prop} {O : Int64} {S : teS}  {k0 : Nat} {res : (Int32 × teS)} (hk0 : k0 < 18) (X : teC wsX1_matchFree RX1 cX1_matchFree 2 (some .int) D cy ba p s m args meth c) (H : Heap) (locs : List Loc) (ls : Array Slot) (hR : teR D cy ad ba O S H) (hS : va_S (teA ba) s.heap H locs) (hl : lv_has ls 2 [(0, .ref (ad (20 * k0)))]) (hf : fX1_matchFree k0 S = some res) : W p l e (headSpec wsX1_matchFree rmX1_matchFree).room s m args below meth c H locs 0 0 (MQ below (va_Qi (fun a (u : teS) => a = res.1 ∧ u = res.2) (fun u t => teR D cy ad ba O u t.heap) (teA ba)) args s 0 0 (teA ba)) (F0 m 0 ls []) := by
  have hx := X.1
  have hb := X.2.1
  have hown := X.2.2.2.2.1
  unfold fX1_matchFree at hf
  refine lv_iconst (v := (0 : Int32)) hx hb dX1_matchFree_0 (by decide) ?_
  refine lv_istore_n (lv' := [(1, .int (0 : Int32)), (0, .ref (ad (20 * k0)))]) hx hb dX1_matchFree_1 rfl hl (by decide) rfl (fun ls hl => ?_)
  exact bX1_matchFree_2 (S := S) (k0 := k0) hk0 X 2000 S ((0 : Int32)) _ _ _ hR hS (lv_sub hl [1, 0] rfl) hf
theorem zcX1_matchFree (l : Launch) (D : va_G) (cy : Nat → ClassId) (ad : Nat → Nat) (ba : Nat → Prop) (O : Int64) (S : teS) (k0 : Nat) (hk0 : k0 < 18) (r : Int32) (S1 : teS) (hf : fX1_matchFree k0 S = some (r, S1)) : cI l yX1_matchFree wsX1_matchFree rmX1_matchFree D cy ad ba O S [.ref (ad (20 * k0))] r S1 :=
  te_of (by decide) rfl (Nat.le_of_ble_eq_true rfl) (fun p e s m below meth c ls X hR hS hl => bX1_matchFree_0 (res := (r, S1)) (S := S) (k0 := k0) hk0 X _ _ _ hR hS hl hf)
abbrev rmX1_uniteFirstBlockingPair : Room := { frames := 4, cells := 0, slots := 0, locals := 91 }
theorem kdX1_uniteFirstBlockingPair : yX1_uniteFirstBlockingPair.cls = RX1 ∧ yX1_uniteFirstBlockingPair.cls ≠ "java/lang/invoke/MethodHandle" ∧ yX1_uniteFirstBlockingPair.cls ≠ "java/lang/invoke/VarHandle" ∧ (parseMethodDescriptor yX1_uniteFirstBlockingPair.desc).map (fun d => d.parameters.length) = some 0 := by decide +kernel
theorem wX1_uniteFirstBlockingPair_18 : Cond.fieldLink RX1 18 "TandemExchange$Circle" "size" "I" ∈ wsX1_uniteFirstBlockingPair := by decide +kernel
theorem iX1_uniteFirstBlockingPair_1 : ∀ w ∈ wsX10, w ∈ wsX1_uniteFirstBlockingPair := by decide +kernel
set_option maxRecDepth 100000 in
set_option maxHeartbeats 4000000 in
theorem bX1_uniteFirstBlockingPair_14 {p : Program} {l : Launch} {e : Env} {s : State} {m : MethodId} {args : Array Value} {below : List Frame} {meth : Method} {c : Code} {D : va_G} {cy : Nat → ClassId} {ad : Nat → Nat} {ba : Nat → Prop} {O : Int64} {S : teS}  {k0 : Nat} {res : (Int32 × teS)} (hk0 : k0 < 18) (X : teC wsX1_uniteFirstBlockingPair RX1 cX1_uniteFirstBlockingPair 3 (some .boolean) D cy ba p s m args meth c) {q2 : teS → Int32 → Option (Int32 × teS)} (hq2 : ∀ (S1 : teS) (v1 : Int32) (H : Heap) (locs : List Loc) (ls : Array Slot), teR D cy ad ba O S1 H → va_S (teA ba) s.heap H locs → lv_has ls 3 [(0, .ref (ad (20 * k0))), (1, .int v1)] → q2 S1 v1 = some res → W p l e (headSpec wsX1_uniteFirstBlockingPair rmX1_uniteFirstBlockingPair).room s m args below meth c H locs 0 0 (MQ below (va_Qi (fun a (u : teS) => a = res.1 ∧ u = res.2) (fun u t => teR D cy ad ba O u t.heap) (teA ba)) args s 0 0 (teA ba)) (F0 m 2 ls [])) : ∀ (n : Nat), ∀ (S1 : teS) (v1 : Int32) (v2 : Int32) (H : Heap) (locs : List Loc) (ls : Array Slot), teR D cy ad ba O S1 H → va_S (teA ba) s.heap H locs → lv_has ls 3 [(0, .ref (ad (20 * k0))), (1, .int v1), (2, .int v2)] → fX1_uniteFirstBlockingPair_14 k0 q2 n S1 v1 v2 = some res → W p l e (headSpec wsX1_uniteFirstBlockingPair rmX1_uniteFirstBlockingPair).room s m args below meth c H locs 0 0 (MQ below (va_Qi (fun a (u : teS) => a = res.1 ∧ u = res.2) (fun u t => teR D cy ad ba O u t.heap) (teA ba)) args s 0 0 (teA ba)) (F0 m 14 ls []) := by
  have hx := X.1
  have hb := X.2.1
  have hown := X.2.2.2.2.1
  intro n
  induction n with
  | zero =>
    intro S1 v1 v2 H locs ls hR hS hl hf
    exact nomatch hf
  | succ n ih =>
    intro S1 v1 v2 H locs ls hR hS hl hf
    unfold fX1_uniteFirstBlockingPair_14 at hf
    refine lv_iload_n hx hb dX1_uniteFirstBlockingPair_14 rfl (lv_at hl 2 rfl) ?_
    refine lv_aload_n hx hb dX1_uniteFirstBlockingPair_15 rfl (lv_at hl 0 rfl) ?_
    refine rg_1_1 X hR hk0 iX1_uniteFirstBlockingPair_1 wX1_uniteFirstBlockingPair_18 dX1_uniteFirstBlockingPair_16 ?_
    refine lv_icmp_ge (tgt := 55) hx hb dX1_uniteFirstBlockingPair_19 (by decide) (fun c_2 => ?_) (fun c_2 => ?_)
    · replace hf := ite_t c_2 hf
      refine lv_iinc (v := (v1 + (1 : Int32))) (lv' := [(1, .int (v1 + (1 : Int32))), (0, .ref (ad (20 * k0))), (2, .int v2)]) hx hb dX1_uniteFirstBlockingPair_55 hl (k := 1) rfl rfl (by decide) rfl (fun ls hl => ?_)
      refine lv_goto (tgt := 2) hx hb dX1_uniteFirstBlockingPair_58 (by decide) ?_
      exact hq2 S1 ((v1 + (1 : Int32))) _ _ _ hR hS (lv_sub hl [1, 0] rfl) hf
    · replace hf := ite_f c_2 hf
      refine lv_aload_n hx hb dX1_uniteFirstBlockingPair_22 rfl (lv_at hl 0 rfl) ?_
      refine lv_iload_n hx hb dX1_uniteFirstBlockingPair_23 rfl (lv_at hl 1 rfl) ?_
      refine lv_iload_n hx hb dX1_uniteFirstBlockingPair_24 rfl (lv_at hl 2 rfl) ?_
      obtain ⟨r_3, hq_4, hf⟩ := bd1_some hf
      refine kVi (id := (20 * k0)) (As := [.int v1, .int v2]) (rest := []) X hR hS (zcX1_block l D cy ad ba O S1 k0 v1 v2 hk0 _ hq_4) (cwV 2 X.2.2.2.2.2.1 gX1_uniteFirstBlockingPair_X1_block rfl rfl rfl kdX1_block ⟨(Nat.le_of_ble_eq_true rfl), (Nat.le_of_ble_eq_true rfl)⟩) (te_idc hk0) (teE_circ cy ad O S1 hk0) rfl rfl rfl hl.1 (Nat.le_of_ble_eq_true rfl) ⟨(Nat.le_of_ble_eq_true rfl), (Nat.le_of_ble_eq_true rfl)⟩ dX1_uniteFirstBlockingPair_25 (fun H locs hR hS => ?_)
      refine lv_if_eq (tgt := 49) hx hb dX1_uniteFirstBlockingPair_28 (by decide) (fun c_5 => ?_) (fun c_5 => ?_)
      · replace hf := ite_t c_5 hf
        refine lv_iinc (v := (v2 + (1 : Int32))) (lv' := [(2, .int (v2 + (1 : Int32))), (0, .ref (ad (20 * k0))), (1, .int v1)]) hx hb dX1_uniteFirstBlockingPair_49 hl (k := 2) rfl rfl (by decide) rfl (fun ls hl => ?_)
        refine lv_goto (tgt := 14) hx hb dX1_uniteFirstBlockingPair_52 (by decide) ?_
        exact ih S1 (v1) ((v2 + (1 : Int32))) _ _ _ hR hS (lv_sub hl [1, 2, 0] rfl) hf
      · replace hf := ite_f c_5 hf
        refine lv_aload_n hx hb dX1_uniteFirstBlockingPair_31 rfl (lv_at hl 0 rfl) ?_
        refine lv_iload_n hx hb dX1_uniteFirstBlockingPair_32 rfl (lv_at hl 1 rfl) ?_
        obtain ⟨S2, hq_7, hf⟩ := bd1_some hf
        refine kVv (id := (20 * k0)) (As := [.int v1]) (rest := []) X hR hS (zcX1_separate l D cy ad ba O S1 k0 v1 hk0 _ hq_7) (cwV 1 X.2.2.2.2.2.1 gX1_uniteFirstBlockingPair_X1_separate rfl rfl rfl kdX1_separate ⟨(Nat.le_of_ble_eq_true rfl), (Nat.le_of_ble_eq_true rfl)⟩) (te_idc hk0) (teE_circ cy ad O S1 hk0) rfl rfl rfl hl.1 (Nat.le_of_ble_eq_true rfl) ⟨(Nat.le_of_ble_eq_true rfl), (Nat.le_of_ble_eq_true rfl)⟩ dX1_uniteFirstBlockingPair_33 (fun H locs hR hS => ?_)
        refine lv_aload_n hx hb dX1_uniteFirstBlockingPair_36 rfl (lv_at hl 0 rfl) ?_
        refine lv_iload_n hx hb dX1_uniteFirstBlockingPair_37 rfl (lv_at hl 2 rfl) ?_
        obtain ⟨S3, hq_9, hf⟩ := bd1_some hf
        refine kVv (id := (20 * k0)) (As := [.int v2]) (rest := []) X hR hS (zcX1_separate l D cy ad ba O S2 k0 v2 hk0 _ hq_9) (cwV 1 X.2.2.2.2.2.1 gX1_uniteFirstBlockingPair_X1_separate rfl rfl rfl kdX1_separate ⟨(Nat.le_of_ble_eq_true rfl), (Nat.le_of_ble_eq_true rfl)⟩) (te_idc hk0) (teE_circ cy ad O S2 hk0) rfl rfl rfl hl.1 (Nat.le_of_ble_eq_true rfl) ⟨(Nat.le_of_ble_eq_true rfl), (Nat.le_of_ble_eq_true rfl)⟩ dX1_uniteFirstBlockingPair_38 (fun H locs hR hS => ?_)
        refine lv_aload_n hx hb dX1_uniteFirstBlockingPair_41 rfl (lv_at hl 0 rfl) ?_
        refine lv_iload_n hx hb dX1_uniteFirstBlockingPair_42 rfl (lv_at hl 1 rfl) ?_
        refine lv_iload_n hx hb dX1_uniteFirstBlockingPair_43 rfl (lv_at hl 2 rfl) ?_
        obtain ⟨S4, hq_11, hf⟩ := bd1_some hf
        refine kVv (id := (20 * k0)) (As := [.int v1, .int v2]) (rest := []) X hR hS (zcX1_unite l D cy ad ba O S3 k0 v1 v2 hk0 _ hq_11) (cwV 2 X.2.2.2.2.2.1 gX1_uniteFirstBlockingPair_X1_unite rfl rfl rfl kdX1_unite ⟨(Nat.le_of_ble_eq_true rfl), (Nat.le_of_ble_eq_true rfl)⟩) (te_idc hk0) (teE_circ cy ad O S3 hk0) rfl rfl rfl hl.1 (Nat.le_of_ble_eq_true rfl) ⟨(Nat.le_of_ble_eq_true rfl), (Nat.le_of_ble_eq_true rfl)⟩ dX1_uniteFirstBlockingPair_44 (fun H locs hR hS => ?_)
        refine lv_iconst (v := (1 : Int32)) hx hb dX1_uniteFirstBlockingPair_47 (by decide) ?_
        exact eZ X hR hS (by decide) (congrArg Prod.fst (Option.some.inj hf)) (congrArg Prod.snd (Option.some.inj hf)) dX1_uniteFirstBlockingPair_48
set_option maxRecDepth 100000 in
set_option maxHeartbeats 4000000 in
theorem bX1_uniteFirstBlockingPair_2 {p : Program} {l : Launch} {e : Env} {s : State} {m : MethodId} {args : Array Value} {below : List Frame} {meth : Method} {c : Code} {D : va_G} {cy : Nat → ClassId} {ad : Nat → Nat} {ba : Nat → Prop} {O : Int64} {S : teS}  {k0 : Nat} {res : (Int32 × teS)} (hk0 : k0 < 18) (X : teC wsX1_uniteFirstBlockingPair RX1 cX1_uniteFirstBlockingPair 3 (some .boolean) D cy ba p s m args meth c) : ∀ (n : Nat), ∀ (S1 : teS) (v1 : Int32) (H : Heap) (locs : List Loc) (ls : Array Slot), teR D cy ad ba O S1 H → va_S (teA ba) s.heap H locs → lv_has ls 3 [(0, .ref (ad (20 * k0))), (1, .int v1)] → fX1_uniteFirstBlockingPair_2 k0 n S1 v1 = some res → W p l e (headSpec wsX1_uniteFirstBlockingPair rmX1_uniteFirstBlockingPair).room s m args below meth c H locs 0 0 (MQ below (va_Qi (fun a (u : teS) => a = res.1 ∧ u = res.2) (fun u t => teR D cy ad ba O u t.heap) (teA ba)) args s 0 0 (teA ba)) (F0 m 2 ls []) := by
  have hx := X.1
  have hb := X.2.1
  have hown := X.2.2.2.2.1
  intro n
  induction n with
  | zero =>
    intro S1 v1 H locs ls hR hS hl hf
    exact nomatch hf
  | succ n ih =>
    intro S1 v1 H locs ls hR hS hl hf
    unfold fX1_uniteFirstBlockingPair_2 at hf
    refine lv_iload_n hx hb dX1_uniteFirstBlockingPair_2 rfl (lv_at hl 1 rfl) ?_
    refine lv_aload_n hx hb dX1_uniteFirstBlockingPair_3 rfl (lv_at hl 0 rfl) ?_
    refine rg_1_1 X hR hk0 iX1_uniteFirstBlockingPair_1 wX1_uniteFirstBlockingPair_18 dX1_uniteFirstBlockingPair_4 ?_
    refine lv_icmp_ge (tgt := 61) hx hb dX1_uniteFirstBlockingPair_7 (by decide) (fun c_1 => ?_) (fun c_1 => ?_)
    · replace hf := ite_t c_1 hf
      refine lv_iconst (v := (0 : Int32)) hx hb dX1_uniteFirstBlockingPair_61 (by decide) ?_
      exact eZ X hR hS (by decide) (congrArg Prod.fst (Option.some.inj hf)) (congrArg Prod.snd (Option.some.inj hf)) dX1_uniteFirstBlockingPair_62
    · replace hf := ite_f c_1 hf
      refine lv_iload_n hx hb dX1_uniteFirstBlockingPair_10 rfl (lv_at hl 1 rfl) ?_
      refine lv_iconst (v := (1 : Int32)) hx hb dX1_uniteFirstBlockingPair_11 (by decide) ?_
      refine lv_iadd hx hb dX1_uniteFirstBlockingPair_12 ?_
      refine lv_istore_n (lv' := [(2, .int (v1 + (1 : Int32))), (0, .ref (ad (20 * k0))), (1, .int v1)]) hx hb dX1_uniteFirstBlockingPair_13 rfl hl (by decide) rfl (fun ls hl => ?_)
      exact bX1_uniteFirstBlockingPair_14 (S := S) (k0 := k0) hk0 X ih 2000 S1 (v1) ((v1 + (1 : Int32))) _ _ _ hR hS (lv_sub hl [1, 2, 0] rfl) hf
set_option maxRecDepth 100000 in
set_option maxHeartbeats 4000000 in
theorem bX1_uniteFirstBlockingPair_0 {p : Program} {l : Launch} {e : Env} {s : State} {m : MethodId} {args : Array Value} {below : List Frame} {meth : Method} {c : Code} {D : va_G} {cy : Nat → ClassId} {ad : Nat → Nat} {ba : Nat → Prop} {O : Int64} {S : teS}  {k0 : Nat} {res : (Int32 × teS)} (hk0 : k0 < 18) (X : teC wsX1_uniteFirstBlockingPair RX1 cX1_uniteFirstBlockingPair 3 (some .boolean) D cy ba p s m args meth c) (H : Heap) (locs : List Loc) (ls : Array Slot) (hR : teR D cy ad ba O S H) (hS : va_S (teA ba) s.heap H locs) (hl : lv_has ls 3 [(0, .ref (ad (20 * k0)))]) (hf : fX1_uniteFirstBlockingPair k0 S = some res) : W p l e (headSpec wsX1_uniteFirstBlockingPair rmX1_uniteFirstBlockingPair).room s m args below meth c H locs 0 0 (MQ below (va_Qi (fun a (u : teS) => a = res.1 ∧ u = res.2) (fun u t => teR D cy ad ba O u t.heap) (teA ba)) args s 0 0 (teA ba)) (F0 m 0 ls []) := by
  have hx := X.1
  have hb := X.2.1
  have hown := X.2.2.2.2.1
  unfold fX1_uniteFirstBlockingPair at hf
  refine lv_iconst (v := (0 : Int32)) hx hb dX1_uniteFirstBlockingPair_0 (by decide) ?_
  refine lv_istore_n (lv' := [(1, .int (0 : Int32)), (0, .ref (ad (20 * k0)))]) hx hb dX1_uniteFirstBlockingPair_1 rfl hl (by decide) rfl (fun ls hl => ?_)
  exact bX1_uniteFirstBlockingPair_2 (S := S) (k0 := k0) hk0 X 2000 S ((0 : Int32)) _ _ _ hR hS (lv_sub hl [1, 0] rfl) hf
theorem zcX1_uniteFirstBlockingPair (l : Launch) (D : va_G) (cy : Nat → ClassId) (ad : Nat → Nat) (ba : Nat → Prop) (O : Int64) (S : teS) (k0 : Nat) (hk0 : k0 < 18) (r : Int32) (S1 : teS) (hf : fX1_uniteFirstBlockingPair k0 S = some (r, S1)) : cI l yX1_uniteFirstBlockingPair wsX1_uniteFirstBlockingPair rmX1_uniteFirstBlockingPair D cy ad ba O S [.ref (ad (20 * k0))] r S1 :=
  te_of (by decide) rfl (Nat.le_of_ble_eq_true rfl) (fun p e s m below meth c ls X hR hS hl => bX1_uniteFirstBlockingPair_0 (res := (r, S1)) (S := S) (k0 := k0) hk0 X _ _ _ hR hS hl hf)
abbrev rmX1_settleBy : Room := { frames := 5, cells := 0, slots := 0, locals := 113 }
theorem kdX1_settleBy : yX1_settleBy.cls = RX1 ∧ yX1_settleBy.cls ≠ "java/lang/invoke/MethodHandle" ∧ yX1_settleBy.cls ≠ "java/lang/invoke/VarHandle" ∧ (parseMethodDescriptor yX1_settleBy.desc).map (fun d => d.parameters.length) = some 1 := by decide +kernel
set_option maxRecDepth 100000 in
set_option maxHeartbeats 4000000 in
theorem bX1_settleBy_2 {p : Program} {l : Launch} {e : Env} {s : State} {m : MethodId} {args : Array Value} {below : List Frame} {meth : Method} {c : Code} {D : va_G} {cy : Nat → ClassId} {ad : Nat → Nat} {ba : Nat → Prop} {O : Int64} {S : teS}  {k0 : Nat} {x1 : Int32} {res : (Int32 × teS)} (hk0 : k0 < 18) (X : teC wsX1_settleBy RX1 cX1_settleBy 3 (some .int) D cy ba p s m args meth c) : ∀ (n : Nat), ∀ (S1 : teS) (v2 : Int32) (H : Heap) (locs : List Loc) (ls : Array Slot), teR D cy ad ba O S1 H → va_S (teA ba) s.heap H locs → lv_has ls 3 [(0, .ref (ad (20 * k0))), (1, .int x1), (2, .int v2)] → fX1_settleBy_2 k0 x1 n S1 v2 = some res → W p l e (headSpec wsX1_settleBy rmX1_settleBy).room s m args below meth c H locs 0 0 (MQ below (va_Qi (fun a (u : teS) => a = res.1 ∧ u = res.2) (fun u t => teR D cy ad ba O u t.heap) (teA ba)) args s 0 0 (teA ba)) (F0 m 2 ls []) := by
  have hx := X.1
  have hb := X.2.1
  have hown := X.2.2.2.2.1
  intro n
  induction n with
  | zero =>
    intro S1 v2 H locs ls hR hS hl hf
    exact nomatch hf
  | succ n ih =>
    intro S1 v2 H locs ls hR hS hl hf
    unfold fX1_settleBy_2 at hf
    refine lv_iload_n hx hb dX1_settleBy_2 rfl (lv_at hl 2 rfl) ?_
    refine lv_iload_n hx hb dX1_settleBy_3 rfl (lv_at hl 1 rfl) ?_
    refine lv_icmp_ge (tgt := 20) hx hb dX1_settleBy_4 (by decide) (fun c_1 => ?_) (fun c_1 => ?_)
    · replace hf := ite_t c_1 hf
      refine lv_iload_n hx hb dX1_settleBy_20 rfl (lv_at hl 2 rfl) ?_
      exact eI X hR hS (congrArg Prod.fst (Option.some.inj hf)) (congrArg Prod.snd (Option.some.inj hf)) dX1_settleBy_21
    · replace hf := ite_f c_1 hf
      refine lv_aload_n hx hb dX1_settleBy_7 rfl (lv_at hl 0 rfl) ?_
      obtain ⟨r_2, S2, hq_3, hf⟩ := bd2_some hf
      refine kVi (id := (20 * k0)) (As := []) (rest := []) X hR hS (zcX1_uniteFirstBlockingPair l D cy ad ba O S1 k0 hk0 _ _ hq_3) (cwV 0 X.2.2.2.2.2.1 gX1_settleBy_X1_uniteFirstBlockingPair rfl rfl rfl kdX1_uniteFirstBlockingPair ⟨(Nat.le_of_ble_eq_true rfl), (Nat.le_of_ble_eq_true rfl)⟩) (te_idc hk0) (teE_circ cy ad O S1 hk0) rfl rfl rfl hl.1 (Nat.le_of_ble_eq_true rfl) ⟨(Nat.le_of_ble_eq_true rfl), (Nat.le_of_ble_eq_true rfl)⟩ dX1_settleBy_8 (fun H locs hR hS => ?_)
      refine lv_if_eq (tgt := 20) hx hb dX1_settleBy_11 (by decide) (fun c_4 => ?_) (fun c_4 => ?_)
      · replace hf := ite_t c_4 hf
        refine lv_iload_n hx hb dX1_settleBy_20 rfl (lv_at hl 2 rfl) ?_
        exact eI X hR hS (congrArg Prod.fst (Option.some.inj hf)) (congrArg Prod.snd (Option.some.inj hf)) dX1_settleBy_21
      · replace hf := ite_f c_4 hf
        refine lv_iinc (v := (v2 + (1 : Int32))) (lv' := [(2, .int (v2 + (1 : Int32))), (0, .ref (ad (20 * k0))), (1, .int x1)]) hx hb dX1_settleBy_14 hl (k := 2) rfl rfl (by decide) rfl (fun ls hl => ?_)
        refine lv_goto (tgt := 2) hx hb dX1_settleBy_17 (by decide) ?_
        exact ih S2 ((v2 + (1 : Int32))) _ _ _ hR hS (lv_sub hl [1, 2, 0] rfl) hf
set_option maxRecDepth 100000 in
set_option maxHeartbeats 4000000 in
theorem bX1_settleBy_0 {p : Program} {l : Launch} {e : Env} {s : State} {m : MethodId} {args : Array Value} {below : List Frame} {meth : Method} {c : Code} {D : va_G} {cy : Nat → ClassId} {ad : Nat → Nat} {ba : Nat → Prop} {O : Int64} {S : teS}  {k0 : Nat} {x1 : Int32} {res : (Int32 × teS)} (hk0 : k0 < 18) (X : teC wsX1_settleBy RX1 cX1_settleBy 3 (some .int) D cy ba p s m args meth c) (H : Heap) (locs : List Loc) (ls : Array Slot) (hR : teR D cy ad ba O S H) (hS : va_S (teA ba) s.heap H locs) (hl : lv_has ls 3 [(0, .ref (ad (20 * k0))), (1, .int x1)]) (hf : fX1_settleBy k0 x1 S = some res) : W p l e (headSpec wsX1_settleBy rmX1_settleBy).room s m args below meth c H locs 0 0 (MQ below (va_Qi (fun a (u : teS) => a = res.1 ∧ u = res.2) (fun u t => teR D cy ad ba O u t.heap) (teA ba)) args s 0 0 (teA ba)) (F0 m 0 ls []) := by
  have hx := X.1
  have hb := X.2.1
  have hown := X.2.2.2.2.1
  unfold fX1_settleBy at hf
  refine lv_iconst (v := (0 : Int32)) hx hb dX1_settleBy_0 (by decide) ?_
  refine lv_istore_n (lv' := [(2, .int (0 : Int32)), (0, .ref (ad (20 * k0))), (1, .int x1)]) hx hb dX1_settleBy_1 rfl hl (by decide) rfl (fun ls hl => ?_)
  exact bX1_settleBy_2 (S := S) (k0 := k0) (x1 := x1) hk0 X 2000 S ((0 : Int32)) _ _ _ hR hS (lv_sub hl [1, 2, 0] rfl) hf
theorem zcX1_settleBy (l : Launch) (D : va_G) (cy : Nat → ClassId) (ad : Nat → Nat) (ba : Nat → Prop) (O : Int64) (S : teS) (k0 : Nat) (x1 : Int32) (hk0 : k0 < 18) (r : Int32) (S1 : teS) (hf : fX1_settleBy k0 x1 S = some (r, S1)) : cI l yX1_settleBy wsX1_settleBy rmX1_settleBy D cy ad ba O S [.ref (ad (20 * k0)), .int x1] r S1 :=
  te_of (by decide) rfl (Nat.le_of_ble_eq_true rfl) (fun p e s m below meth c ls X hR hS hl => bX1_settleBy_0 (res := (r, S1)) (S := S) (k0 := k0) (x1 := x1) hk0 X _ _ _ hR hS hl hf)
abbrev rmX1_pointsOfMeeting : Room := { frames := 1, cells := 0, slots := 0, locals := 24 }
theorem kdX1_pointsOfMeeting : yX1_pointsOfMeeting.cls = RX1 ∧ yX1_pointsOfMeeting.cls ≠ "java/lang/invoke/MethodHandle" ∧ yX1_pointsOfMeeting.cls ≠ "java/lang/invoke/VarHandle" ∧ (parseMethodDescriptor yX1_pointsOfMeeting.desc).map (fun d => d.parameters.length) = some 2 := by decide +kernel
theorem wX1_pointsOfMeeting_128 : Cond.methodLink RX1 128 Lib.Math.max.name ∈ wsX1_pointsOfMeeting := by decide +kernel
theorem wX1_pointsOfMeeting_maxs : Cond.static Lib.Math.max.name ∈ wsX1_pointsOfMeeting := by decide +kernel
theorem wX1_pointsOfMeeting_mi : Cond.initialized "java/lang/Math" ∈ wsX1_pointsOfMeeting := by decide +kernel
theorem wX1_pointsOfMeeting_maxc : Cond.code Lib.Math.max.name Lib.Math.max.code 2 (some .int) ∈ wsX1_pointsOfMeeting := by decide +kernel
set_option maxRecDepth 100000 in
set_option maxHeartbeats 4000000 in
theorem bX1_pointsOfMeeting_0 {p : Program} {l : Launch} {e : Env} {s : State} {m : MethodId} {args : Array Value} {below : List Frame} {meth : Method} {c : Code} {D : va_G} {cy : Nat → ClassId} {ad : Nat → Nat} {ba : Nat → Prop} {O : Int64} {S : teS}  {k0 : Nat} {x1 : Int32} {x2 : Int32} {res : Int32} (hk0 : k0 < 18) (X : teC wsX1_pointsOfMeeting RX1 cX1_pointsOfMeeting 3 (some .int) D cy ba p s m args meth c) (H : Heap) (locs : List Loc) (ls : Array Slot) (hR : teR D cy ad ba O S H) (hS : va_S (teA ba) s.heap H locs) (hl : lv_has ls 3 [(0, .ref (ad (20 * k0))), (1, .int x1), (2, .int x2)]) (hf : fX1_pointsOfMeeting k0 x1 x2 S = some res) : W p l e (headSpec wsX1_pointsOfMeeting rmX1_pointsOfMeeting).room s m args below meth c H locs 0 0 (MQ below (va_Qi (fun a (u : teS) => a = res ∧ u = S) (fun u t => teR D cy ad ba O u t.heap) (teA ba)) args s 0 0 (teA ba)) (F0 m 0 ls []) := by
  have hx := X.1
  have hb := X.2.1
  have hown := X.2.2.2.2.1
  unfold fX1_pointsOfMeeting at hf
  refine lv_iconst (v := (1 : Int32)) hx hb dX1_pointsOfMeeting_0 (by decide) ?_
  refine lv_iconst (v := (4 : Int32)) hx hb dX1_pointsOfMeeting_1 (by decide) ?_
  refine lv_aload_n hx hb dX1_pointsOfMeeting_2 rfl (lv_at hl 0 rfl) ?_
  refine lv_iload_n hx hb dX1_pointsOfMeeting_3 rfl (lv_at hl 1 rfl) ?_
  refine lv_iload_n hx hb dX1_pointsOfMeeting_4 rfl (lv_at hl 2 rfl) ?_
  obtain ⟨r_1, hq_2, hf⟩ := bd1_some hf
  refine kVi (id := (20 * k0)) (As := [.int x1, .int x2]) (rest := [.int (4 : Int32), .int (1 : Int32)]) X hR hS (zcX1_lead l D cy ad ba O S k0 x1 x2 hk0 _ hq_2) (cwV 2 X.2.2.2.2.2.1 gX1_pointsOfMeeting_X1_lead rfl rfl rfl kdX1_lead ⟨(Nat.le_of_ble_eq_true rfl), (Nat.le_of_ble_eq_true rfl)⟩) (te_idc hk0) (teE_circ cy ad O S hk0) rfl rfl rfl hl.1 (Nat.le_of_ble_eq_true rfl) ⟨(Nat.le_of_ble_eq_true rfl), (Nat.le_of_ble_eq_true rfl)⟩ dX1_pointsOfMeeting_5 (fun H locs hR hS => ?_)
  refine lv_iadd hx hb dX1_pointsOfMeeting_8 ?_
  refine va_mmax hx hb (X.2.2.1.trans hl.1.symm) hown (X.2.2.2.2.2.1 _ wX1_pointsOfMeeting_128) (X.2.2.2.2.2.1 _ wX1_pointsOfMeeting_maxs) (X.2.2.2.2.2.1 _ wX1_pointsOfMeeting_mi) (X.2.2.2.2.2.1 _ wX1_pointsOfMeeting_maxc) (Nat.le_of_ble_eq_true rfl) (Nat.le_of_ble_eq_true rfl) (Nat.zero_le _) (Nat.zero_le _) dX1_pointsOfMeeting_9 ?_
  exact eI X hR hS (Option.some.inj hf) rfl dX1_pointsOfMeeting_12
theorem zcX1_pointsOfMeeting (l : Launch) (D : va_G) (cy : Nat → ClassId) (ad : Nat → Nat) (ba : Nat → Prop) (O : Int64) (S : teS) (k0 : Nat) (x1 : Int32) (x2 : Int32) (hk0 : k0 < 18) (res : Int32) (hf : fX1_pointsOfMeeting k0 x1 x2 S = some res) : cI l yX1_pointsOfMeeting wsX1_pointsOfMeeting rmX1_pointsOfMeeting D cy ad ba O S [.ref (ad (20 * k0)), .int x1, .int x2] res S :=
  te_of (by decide +kernel) rfl (Nat.le_of_ble_eq_true rfl) (fun p e s m below meth c ls X hR hS hl => bX1_pointsOfMeeting_0 (S := S) (k0 := k0) (x1 := x1) (x2 := x2) hk0 X _ _ _ hR hS hl hf)
abbrev rmX1_passWeekOfPair : Room := { frames := 3, cells := 0, slots := 0, locals := 66 }
theorem kdX1_passWeekOfPair : yX1_passWeekOfPair.cls = RX1 ∧ yX1_passWeekOfPair.cls ≠ "java/lang/invoke/MethodHandle" ∧ yX1_passWeekOfPair.cls ≠ "java/lang/invoke/VarHandle" ∧ (parseMethodDescriptor yX1_passWeekOfPair.desc).map (fun d => d.parameters.length) = some 3 := by decide +kernel
theorem wX1_passWeekOfPair_11 : Cond.fieldLink RX1 11 "TandemExchange$Circle" "members" "[LTandemExchange$Member;" ∈ wsX1_passWeekOfPair := by decide +kernel
theorem iX1_passWeekOfPair_1 : ∀ w ∈ wsX10, w ∈ wsX1_passWeekOfPair := by decide +kernel
set_option maxRecDepth 100000 in
set_option maxHeartbeats 4000000 in
theorem bX1_passWeekOfPair_42 {p : Program} {l : Launch} {e : Env} {s : State} {m : MethodId} {args : Array Value} {below : List Frame} {meth : Method} {c : Code} {D : va_G} {cy : Nat → ClassId} {ad : Nat → Nat} {ba : Nat → Prop} {O : Int64} {S : teS}  {k0 : Nat} {x1 : Int32} {x2 : Int32} {x3 : Int32} {res : teS} (hk0 : k0 < 18) (X : teC wsX1_passWeekOfPair RX1 cX1_passWeekOfPair 8 none D cy ba p s m args meth c) : ∀ (S1 : teS) (v4 : Int32) (v5 : Int32) (H : Heap) (locs : List Loc) (ls : Array Slot), teR D cy ad ba O S1 H → va_S (teA ba) s.heap H locs → lv_has ls 8 [(0, .ref (ad (20 * k0))), (1, .int x1), (2, .int x2), (4, .int v4), (5, .int v5)] → fX1_passWeekOfPair_42 k0 x1 x2 x3 S1 v4 v5 = some res → W p l e (headSpec wsX1_passWeekOfPair rmX1_passWeekOfPair).room s m args below meth c H locs 0 0 (MQ below (va_Qv (fun (u : teS) => u = res) (fun u t => teR D cy ad ba O u t.heap) (teA ba)) args s 0 0 (teA ba)) (F0 m 42 ls []) := by
  have hx := X.1
  have hb := X.2.1
  have hown := X.2.2.2.2.1
  intro S1 v4 v5 H locs ls hR hS hl hf
  unfold fX1_passWeekOfPair_42 at hf
  refine lv_aload_n hx hb dX1_passWeekOfPair_42 rfl (lv_at hl 0 rfl) ?_
  refine rg_1_0 X hR hk0 iX1_passWeekOfPair_1 wX1_passWeekOfPair_11 dX1_passWeekOfPair_43 ?_
  refine lv_iload_n hx hb dX1_passWeekOfPair_46 rfl (lv_at hl 1 rfl) ?_
  obtain ⟨h_15, hf⟩ := chk_some hf
  refine ra_mem X hR hk0 h_15 dX1_passWeekOfPair_47 ?_
  refine lv_iload hx hb dX1_passWeekOfPair_48 (lv_at hl 3 rfl) ?_
  obtain ⟨S2, hq_17, hf⟩ := bd1_some hf
  refine kVv (id := (20 * k0 + 2 + x1.toNatClampNeg)) (As := [.int v4]) (rest := []) X hR hS (zcX3_failToMeet l D cy ad ba O S1 k0 x1.toNatClampNeg v4 hk0 (tein_lt h_15) _ hq_17) (cwV 1 X.2.2.2.2.2.1 gX1_passWeekOfPair_X3_failToMeet rfl rfl rfl kdX3_failToMeet ⟨(Nat.le_of_ble_eq_true rfl), (Nat.le_of_ble_eq_true rfl)⟩) (te_idm hk0 (tein_lt h_15)) (teE_memb cy ad O S1 hk0 (tein_lt h_15)) rfl rfl rfl hl.1 (Nat.le_of_ble_eq_true rfl) ⟨(Nat.le_of_ble_eq_true rfl), (Nat.le_of_ble_eq_true rfl)⟩ dX1_passWeekOfPair_50 (fun H locs hR hS => ?_)
  refine lv_aload_n hx hb dX1_passWeekOfPair_53 rfl (lv_at hl 0 rfl) ?_
  refine rg_1_0 X hR hk0 iX1_passWeekOfPair_1 wX1_passWeekOfPair_11 dX1_passWeekOfPair_54 ?_
  refine lv_iload_n hx hb dX1_passWeekOfPair_57 rfl (lv_at hl 2 rfl) ?_
  obtain ⟨h_18, hf⟩ := chk_some hf
  refine ra_mem X hR hk0 h_18 dX1_passWeekOfPair_58 ?_
  refine lv_iload hx hb dX1_passWeekOfPair_59 (lv_at hl 4 rfl) ?_
  obtain ⟨S3, hq_20, hf⟩ := bd1_some hf
  refine kVv (id := (20 * k0 + 2 + x2.toNatClampNeg)) (As := [.int v5]) (rest := []) X hR hS (zcX3_failToMeet l D cy ad ba O S2 k0 x2.toNatClampNeg v5 hk0 (tein_lt h_18) _ hq_20) (cwV 1 X.2.2.2.2.2.1 gX1_passWeekOfPair_X3_failToMeet rfl rfl rfl kdX3_failToMeet ⟨(Nat.le_of_ble_eq_true rfl), (Nat.le_of_ble_eq_true rfl)⟩) (te_idm hk0 (tein_lt h_18)) (teE_memb cy ad O S2 hk0 (tein_lt h_18)) rfl rfl rfl hl.1 (Nat.le_of_ble_eq_true rfl) ⟨(Nat.le_of_ble_eq_true rfl), (Nat.le_of_ble_eq_true rfl)⟩ dX1_passWeekOfPair_61 (fun H locs hR hS => ?_)
  refine lv_goto (tgt := 105) hx hb dX1_passWeekOfPair_64 (by decide) ?_
  exact eV X hR hS (Option.some.inj hf) dX1_passWeekOfPair_105
set_option maxRecDepth 100000 in
set_option maxHeartbeats 4000000 in
theorem bX1_passWeekOfPair_30 {p : Program} {l : Launch} {e : Env} {s : State} {m : MethodId} {args : Array Value} {below : List Frame} {meth : Method} {c : Code} {D : va_G} {cy : Nat → ClassId} {ad : Nat → Nat} {ba : Nat → Prop} {O : Int64} {S : teS}  {k0 : Nat} {x1 : Int32} {x2 : Int32} {x3 : Int32} {res : teS} (hk0 : k0 < 18) (X : teC wsX1_passWeekOfPair RX1 cX1_passWeekOfPair 8 none D cy ba p s m args meth c) : ∀ (S1 : teS) (v4 : Int32) (y0 : Int32) (H : Heap) (locs : List Loc) (ls : Array Slot), teR D cy ad ba O S1 H → va_S (teA ba) s.heap H locs → lv_has ls 8 [(0, .ref (ad (20 * k0))), (1, .int x1), (2, .int x2), (4, .int v4)] → fX1_passWeekOfPair_30 k0 x1 x2 x3 S1 v4 y0 = some res → W p l e (headSpec wsX1_passWeekOfPair rmX1_passWeekOfPair).room s m args below meth c H locs 0 0 (MQ below (va_Qv (fun (u : teS) => u = res) (fun u t => teR D cy ad ba O u t.heap) (teA ba)) args s 0 0 (teA ba)) (F0 m 30 ls [.int y0]) := by
  have hx := X.1
  have hb := X.2.1
  have hown := X.2.2.2.2.1
  intro S1 v4 y0 H locs ls hR hS hl hf
  unfold fX1_passWeekOfPair_30 at hf
  refine lv_istore (lv' := [(5, .int y0), (0, .ref (ad (20 * k0))), (1, .int x1), (2, .int x2), (4, .int v4)]) hx hb dX1_passWeekOfPair_30 hl (by decide) rfl (fun ls hl => ?_)
  refine lv_iload hx hb dX1_passWeekOfPair_32 (lv_at hl 4 rfl) ?_
  refine lv_if_ne (tgt := 42) hx hb dX1_passWeekOfPair_34 (by decide) (fun c_3 => ?_) (fun c_3 => ?_)
  · replace hf := ite_f c_3 hf
    exact bX1_passWeekOfPair_42 (S := S) (k0 := k0) (x1 := x1) (x2 := x2) (x3 := x3) hk0 X S1 (v4) (y0) _ _ _ hR hS (lv_sub hl [1, 2, 3, 4, 0] rfl) hf
  · replace hf := ite_t c_3 hf
    refine lv_iload hx hb dX1_passWeekOfPair_37 (lv_at hl 0 rfl) ?_
    refine lv_if_eq (tgt := 67) hx hb dX1_passWeekOfPair_39 (by decide) (fun c_4 => ?_) (fun c_4 => ?_)
    · replace hf := ite_t c_4 hf
      refine lv_aload_n hx hb dX1_passWeekOfPair_67 rfl (lv_at hl 1 rfl) ?_
      refine lv_iload_n hx hb dX1_passWeekOfPair_68 rfl (lv_at hl 2 rfl) ?_
      refine lv_iload_n hx hb dX1_passWeekOfPair_69 rfl (lv_at hl 3 rfl) ?_
      obtain ⟨r_5, hq_6, hf⟩ := bd1_some hf
      refine kVi (id := (20 * k0)) (As := [.int x1, .int x2]) (rest := []) X hR hS (zcX1_pointsOfMeeting l D cy ad ba O S1 k0 x1 x2 hk0 _ hq_6) (cwV 2 X.2.2.2.2.2.1 gX1_passWeekOfPair_X1_pointsOfMeeting rfl rfl rfl kdX1_pointsOfMeeting ⟨(Nat.le_of_ble_eq_true rfl), (Nat.le_of_ble_eq_true rfl)⟩) (te_idc hk0) (teE_circ cy ad O S1 hk0) rfl rfl rfl hl.1 (Nat.le_of_ble_eq_true rfl) ⟨(Nat.le_of_ble_eq_true rfl), (Nat.le_of_ble_eq_true rfl)⟩ dX1_passWeekOfPair_70 (fun H locs hR hS => ?_)
      refine lv_istore (lv' := [(6, .int r_5), (5, .int y0), (0, .ref (ad (20 * k0))), (1, .int x1), (2, .int x2), (4, .int v4)]) hx hb dX1_passWeekOfPair_73 hl (by decide) rfl (fun ls hl => ?_)
      refine lv_aload_n hx hb dX1_passWeekOfPair_75 rfl (lv_at hl 2 rfl) ?_
      refine lv_iload_n hx hb dX1_passWeekOfPair_76 rfl (lv_at hl 4 rfl) ?_
      refine lv_iload_n hx hb dX1_passWeekOfPair_77 rfl (lv_at hl 3 rfl) ?_
      obtain ⟨r_7, hq_8, hf⟩ := bd1_some hf
      refine kVi (id := (20 * k0)) (As := [.int x2, .int x1]) (rest := []) X hR hS (zcX1_pointsOfMeeting l D cy ad ba O S1 k0 x2 x1 hk0 _ hq_8) (cwV 2 X.2.2.2.2.2.1 gX1_passWeekOfPair_X1_pointsOfMeeting rfl rfl rfl kdX1_pointsOfMeeting ⟨(Nat.le_of_ble_eq_true rfl), (Nat.le_of_ble_eq_true rfl)⟩) (te_idc hk0) (teE_circ cy ad O S1 hk0) rfl rfl rfl hl.1 (Nat.le_of_ble_eq_true rfl) ⟨(Nat.le_of_ble_eq_true rfl), (Nat.le_of_ble_eq_true rfl)⟩ dX1_passWeekOfPair_78 (fun H locs hR hS => ?_)
      refine lv_istore (lv' := [(7, .int r_7), (6, .int r_5), (5, .int y0), (0, .ref (ad (20 * k0))), (1, .int x1), (2, .int x2), (4, .int v4)]) hx hb dX1_passWeekOfPair_81 hl (by decide) rfl (fun ls hl => ?_)
      refine lv_aload_n hx hb dX1_passWeekOfPair_83 rfl (lv_at hl 3 rfl) ?_
      refine rg_1_0 X hR hk0 iX1_passWeekOfPair_1 wX1_passWeekOfPair_11 dX1_passWeekOfPair_84 ?_
      refine lv_iload_n hx hb dX1_passWeekOfPair_87 rfl (lv_at hl 4 rfl) ?_
      obtain ⟨h_9, hf⟩ := chk_some hf
      refine ra_mem X hR hk0 h_9 dX1_passWeekOfPair_88 ?_
      refine lv_iload hx hb dX1_passWeekOfPair_89 (lv_at hl 1 rfl) ?_
      obtain ⟨S2, hq_11, hf⟩ := bd1_some hf
      refine kVv (id := (20 * k0 + 2 + x1.toNatClampNeg)) (As := [.int r_5]) (rest := []) X hR hS (zcX3_meet l D cy ad ba O S1 k0 x1.toNatClampNeg r_5 hk0 (tein_lt h_9) _ hq_11) (cwV 1 X.2.2.2.2.2.1 gX1_passWeekOfPair_X3_meet rfl rfl rfl kdX3_meet ⟨(Nat.le_of_ble_eq_true rfl), (Nat.le_of_ble_eq_true rfl)⟩) (te_idm hk0 (tein_lt h_9)) (teE_memb cy ad O S1 hk0 (tein_lt h_9)) rfl rfl rfl hl.1 (Nat.le_of_ble_eq_true rfl) ⟨(Nat.le_of_ble_eq_true rfl), (Nat.le_of_ble_eq_true rfl)⟩ dX1_passWeekOfPair_91 (fun H locs hR hS => ?_)
      refine lv_aload_n hx hb dX1_passWeekOfPair_94 rfl (lv_at hl 3 rfl) ?_
      refine rg_1_0 X hR hk0 iX1_passWeekOfPair_1 wX1_passWeekOfPair_11 dX1_passWeekOfPair_95 ?_
      refine lv_iload_n hx hb dX1_passWeekOfPair_98 rfl (lv_at hl 5 rfl) ?_
      obtain ⟨h_12, hf⟩ := chk_some hf
      refine ra_mem X hR hk0 h_12 dX1_passWeekOfPair_99 ?_
      refine lv_iload hx hb dX1_passWeekOfPair_100 (lv_at hl 0 rfl) ?_
      obtain ⟨S3, hq_14, hf⟩ := bd1_some hf
      refine kVv (id := (20 * k0 + 2 + x2.toNatClampNeg)) (As := [.int r_7]) (rest := []) X hR hS (zcX3_meet l D cy ad ba O S2 k0 x2.toNatClampNeg r_7 hk0 (tein_lt h_12) _ hq_14) (cwV 1 X.2.2.2.2.2.1 gX1_passWeekOfPair_X3_meet rfl rfl rfl kdX3_meet ⟨(Nat.le_of_ble_eq_true rfl), (Nat.le_of_ble_eq_true rfl)⟩) (te_idm hk0 (tein_lt h_12)) (teE_memb cy ad O S2 hk0 (tein_lt h_12)) rfl rfl rfl hl.1 (Nat.le_of_ble_eq_true rfl) ⟨(Nat.le_of_ble_eq_true rfl), (Nat.le_of_ble_eq_true rfl)⟩ dX1_passWeekOfPair_102 (fun H locs hR hS => ?_)
      exact eV X hR hS (Option.some.inj hf) dX1_passWeekOfPair_105
    · replace hf := ite_f c_4 hf
      exact bX1_passWeekOfPair_42 (S := S) (k0 := k0) (x1 := x1) (x2 := x2) (x3 := x3) hk0 X S1 (v4) (y0) _ _ _ hR hS (lv_sub hl [1, 2, 3, 4, 0] rfl) hf
set_option maxRecDepth 100000 in
set_option maxHeartbeats 4000000 in
theorem bX1_passWeekOfPair_14 {p : Program} {l : Launch} {e : Env} {s : State} {m : MethodId} {args : Array Value} {below : List Frame} {meth : Method} {c : Code} {D : va_G} {cy : Nat → ClassId} {ad : Nat → Nat} {ba : Nat → Prop} {O : Int64} {S : teS}  {k0 : Nat} {x1 : Int32} {x2 : Int32} {x3 : Int32} {res : teS} (hk0 : k0 < 18) (X : teC wsX1_passWeekOfPair RX1 cX1_passWeekOfPair 8 none D cy ba p s m args meth c) : ∀ (S1 : teS) (y0 : Int32) (H : Heap) (locs : List Loc) (ls : Array Slot), teR D cy ad ba O S1 H → va_S (teA ba) s.heap H locs → lv_has ls 8 [(0, .ref (ad (20 * k0))), (1, .int x1), (2, .int x2), (3, .int x3)] → fX1_passWeekOfPair_14 k0 x1 x2 x3 S1 y0 = some res → W p l e (headSpec wsX1_passWeekOfPair rmX1_passWeekOfPair).room s m args below meth c H locs 0 0 (MQ below (va_Qv (fun (u : teS) => u = res) (fun u t => teR D cy ad ba O u t.heap) (teA ba)) args s 0 0 (teA ba)) (F0 m 14 ls [.int y0]) := by
  have hx := X.1
  have hb := X.2.1
  have hown := X.2.2.2.2.1
  intro S1 y0 H locs ls hR hS hl hf
  unfold fX1_passWeekOfPair_14 at hf
  refine lv_istore (lv' := [(4, .int y0), (0, .ref (ad (20 * k0))), (1, .int x1), (2, .int x2), (3, .int x3)]) hx hb dX1_passWeekOfPair_14 hl (by decide) rfl (fun ls hl => ?_)
  refine lv_iload_n hx hb dX1_passWeekOfPair_16 rfl (lv_at hl 4 rfl) ?_
  refine lv_iload_n hx hb dX1_passWeekOfPair_17 rfl (lv_at hl 3 rfl) ?_
  refine lv_ishr hx hb dX1_passWeekOfPair_18 ?_
  refine lv_iconst (v := (1 : Int32)) hx hb dX1_passWeekOfPair_19 (by decide) ?_
  refine lv_iand hx hb dX1_passWeekOfPair_20 ?_
  refine lv_iconst (v := (1 : Int32)) hx hb dX1_passWeekOfPair_21 (by decide) ?_
  refine lv_icmp_ne (tgt := 29) hx hb dX1_passWeekOfPair_22 (by decide) (fun c_2 => ?_) (fun c_2 => ?_)
  · replace hf := ite_f c_2 hf
    refine lv_iconst (v := (0 : Int32)) hx hb dX1_passWeekOfPair_29 (by decide) ?_
    exact bX1_passWeekOfPair_30 (S := S) (k0 := k0) (x1 := x1) (x2 := x2) (x3 := x3) hk0 X S1 (y0) ((0 : Int32)) _ _ _ hR hS (lv_sub hl [1, 2, 3, 0] rfl) hf
  · replace hf := ite_t c_2 hf
    refine lv_iconst (v := (1 : Int32)) hx hb dX1_passWeekOfPair_25 (by decide) ?_
    refine lv_goto (tgt := 30) hx hb dX1_passWeekOfPair_26 (by decide) ?_
    exact bX1_passWeekOfPair_30 (S := S) (k0 := k0) (x1 := x1) (x2 := x2) (x3 := x3) hk0 X S1 (y0) ((1 : Int32)) _ _ _ hR hS (lv_sub hl [1, 2, 3, 0] rfl) hf
set_option maxRecDepth 100000 in
set_option maxHeartbeats 4000000 in
theorem bX1_passWeekOfPair_0 {p : Program} {l : Launch} {e : Env} {s : State} {m : MethodId} {args : Array Value} {below : List Frame} {meth : Method} {c : Code} {D : va_G} {cy : Nat → ClassId} {ad : Nat → Nat} {ba : Nat → Prop} {O : Int64} {S : teS}  {k0 : Nat} {x1 : Int32} {x2 : Int32} {x3 : Int32} {res : teS} (hk0 : k0 < 18) (X : teC wsX1_passWeekOfPair RX1 cX1_passWeekOfPair 8 none D cy ba p s m args meth c) (H : Heap) (locs : List Loc) (ls : Array Slot) (hR : teR D cy ad ba O S H) (hS : va_S (teA ba) s.heap H locs) (hl : lv_has ls 8 [(0, .ref (ad (20 * k0))), (1, .int x1), (2, .int x2), (3, .int x3)]) (hf : fX1_passWeekOfPair k0 x1 x2 x3 S = some res) : W p l e (headSpec wsX1_passWeekOfPair rmX1_passWeekOfPair).room s m args below meth c H locs 0 0 (MQ below (va_Qv (fun (u : teS) => u = res) (fun u t => teR D cy ad ba O u t.heap) (teA ba)) args s 0 0 (teA ba)) (F0 m 0 ls []) := by
  have hx := X.1
  have hb := X.2.1
  have hown := X.2.2.2.2.1
  unfold fX1_passWeekOfPair at hf
  refine lv_iload_n hx hb dX1_passWeekOfPair_0 rfl (lv_at hl 3 rfl) ?_
  refine lv_iload_n hx hb dX1_passWeekOfPair_1 rfl (lv_at hl 1 rfl) ?_
  refine lv_ishr hx hb dX1_passWeekOfPair_2 ?_
  refine lv_iconst (v := (1 : Int32)) hx hb dX1_passWeekOfPair_3 (by decide) ?_
  refine lv_iand hx hb dX1_passWeekOfPair_4 ?_
  refine lv_iconst (v := (1 : Int32)) hx hb dX1_passWeekOfPair_5 (by decide) ?_
  refine lv_icmp_ne (tgt := 13) hx hb dX1_passWeekOfPair_6 (by decide) (fun c_1 => ?_) (fun c_1 => ?_)
  · replace hf := ite_f c_1 hf
    refine lv_iconst (v := (0 : Int32)) hx hb dX1_passWeekOfPair_13 (by decide) ?_
    exact bX1_passWeekOfPair_14 (S := S) (k0 := k0) (x1 := x1) (x2 := x2) (x3 := x3) hk0 X S ((0 : Int32)) _ _ _ hR hS (lv_sub hl [0, 1, 2, 3] rfl) hf
  · replace hf := ite_t c_1 hf
    refine lv_iconst (v := (1 : Int32)) hx hb dX1_passWeekOfPair_9 (by decide) ?_
    refine lv_goto (tgt := 14) hx hb dX1_passWeekOfPair_10 (by decide) ?_
    exact bX1_passWeekOfPair_14 (S := S) (k0 := k0) (x1 := x1) (x2 := x2) (x3 := x3) hk0 X S ((1 : Int32)) _ _ _ hR hS (lv_sub hl [0, 1, 2, 3] rfl) hf
theorem zcX1_passWeekOfPair (l : Launch) (D : va_G) (cy : Nat → ClassId) (ad : Nat → Nat) (ba : Nat → Prop) (O : Int64) (S : teS) (k0 : Nat) (x1 : Int32) (x2 : Int32) (x3 : Int32) (hk0 : k0 < 18) (res : teS) (hf : fX1_passWeekOfPair k0 x1 x2 x3 S = some res) : cV l yX1_passWeekOfPair wsX1_passWeekOfPair rmX1_passWeekOfPair D cy ad ba O S [.ref (ad (20 * k0)), .int x1, .int x2, .int x3] res :=
  te_of (by decide +kernel) rfl (Nat.le_of_ble_eq_true rfl) (fun p e s m below meth c ls X hR hS hl => bX1_passWeekOfPair_0 (S := S) (k0 := k0) (x1 := x1) (x2 := x2) (x3 := x3) hk0 X _ _ _ hR hS hl hf)
abbrev rmX1_passWeek : Room := { frames := 4, cells := 0, slots := 0, locals := 93 }
theorem kdX1_passWeek : yX1_passWeek.cls = RX1 ∧ yX1_passWeek.cls ≠ "java/lang/invoke/MethodHandle" ∧ yX1_passWeek.cls ≠ "java/lang/invoke/VarHandle" ∧ (parseMethodDescriptor yX1_passWeek.desc).map (fun d => d.parameters.length) = some 1 := by decide +kernel
theorem wX1_passWeek_18 : Cond.fieldLink RX1 18 "TandemExchange$Circle" "size" "I" ∈ wsX1_passWeek := by decide +kernel
theorem iX1_passWeek_1 : ∀ w ∈ wsX10, w ∈ wsX1_passWeek := by decide +kernel
theorem wX1_passWeek_26 : Cond.fieldLink RX1 26 "TandemExchange$Circle" "weeks" "I" ∈ wsX1_passWeek := by decide +kernel
theorem wX1_passWeek_11 : Cond.fieldLink RX1 11 "TandemExchange$Circle" "members" "[LTandemExchange$Member;" ∈ wsX1_passWeek := by decide +kernel
theorem wX1_passWeek_55 : Cond.fieldLink RX1 55 "TandemExchange$Member" "missedInRow" "I" ∈ wsX1_passWeek := by decide +kernel
theorem iX1_passWeek_3 : ∀ w ∈ wsX30, w ∈ wsX1_passWeek := by decide +kernel
set_option maxRecDepth 100000 in
set_option maxHeartbeats 4000000 in
theorem bX1_passWeek_38 {p : Program} {l : Launch} {e : Env} {s : State} {m : MethodId} {args : Array Value} {below : List Frame} {meth : Method} {c : Code} {D : va_G} {cy : Nat → ClassId} {ad : Nat → Nat} {ba : Nat → Prop} {O : Int64} {S : teS}  {k0 : Nat} {x1 : Int32} {res : teS} (hk0 : k0 < 18) (X : teC wsX1_passWeek RX1 cX1_passWeek 4 none D cy ba p s m args meth c) : ∀ (n : Nat), ∀ (S1 : teS) (v2 : Int32) (H : Heap) (locs : List Loc) (ls : Array Slot), teR D cy ad ba O S1 H → va_S (teA ba) s.heap H locs → lv_has ls 4 [(0, .ref (ad (20 * k0))), (2, .int v2)] → fX1_passWeek_38 k0 x1 n S1 v2 = some res → W p l e (headSpec wsX1_passWeek rmX1_passWeek).room s m args below meth c H locs 0 0 (MQ below (va_Qv (fun (u : teS) => u = res) (fun u t => teR D cy ad ba O u t.heap) (teA ba)) args s 0 0 (teA ba)) (F0 m 38 ls []) := by
  have hx := X.1
  have hb := X.2.1
  have hown := X.2.2.2.2.1
  intro n
  induction n with
  | zero =>
    intro S1 v2 H locs ls hR hS hl hf
    exact nomatch hf
  | succ n ih =>
    intro S1 v2 H locs ls hR hS hl hf
    unfold fX1_passWeek_38 at hf
    refine lv_iload_n hx hb dX1_passWeek_38 rfl (lv_at hl 1 rfl) ?_
    refine lv_aload_n hx hb dX1_passWeek_39 rfl (lv_at hl 0 rfl) ?_
    refine rg_1_1 X hR hk0 iX1_passWeek_1 wX1_passWeek_18 dX1_passWeek_40 ?_
    refine lv_icmp_ge (tgt := 92) hx hb dX1_passWeek_43 (by decide) (fun c_7 => ?_) (fun c_7 => ?_)
    · replace hf := ite_t c_7 hf
      refine lv_aload_n hx hb dX1_passWeek_92 rfl (lv_at hl 0 rfl) ?_
      refine lv_dup hx hb dX1_passWeek_93 rfl ?_
      refine rg_1_2 X hR hk0 iX1_passWeek_1 wX1_passWeek_26 dX1_passWeek_94 ?_
      refine lv_iconst (v := (1 : Int32)) hx hb dX1_passWeek_97 (by decide) ?_
      refine lv_iadd hx hb dX1_passWeek_98 ?_
      refine rp_1_2 X hR hS hk0 iX1_passWeek_1 wX1_passWeek_26 dX1_passWeek_99 (fun H locs hR hS => ?_)
      generalize teu S1 k0 1 ((S1 k0 1) + (1 : Int32)) = S2 at hf hR
      replace hf := lt1_e hf
      exact eV X hR hS (Option.some.inj hf) dX1_passWeek_102
    · replace hf := ite_f c_7 hf
      refine lv_aload_n hx hb dX1_passWeek_46 rfl (lv_at hl 0 rfl) ?_
      refine lv_iload_n hx hb dX1_passWeek_47 rfl (lv_at hl 1 rfl) ?_
      obtain ⟨r_8, hq_9, hf⟩ := bd1_some hf
      refine kVi (id := (20 * k0)) (As := [.int v2]) (rest := []) X hR hS (zcX1_greaterPartner l D cy ad ba O S1 k0 v2 hk0 _ hq_9) (cwV 1 X.2.2.2.2.2.1 gX1_passWeek_X1_greaterPartner rfl rfl rfl kdX1_greaterPartner ⟨(Nat.le_of_ble_eq_true rfl), (Nat.le_of_ble_eq_true rfl)⟩) (te_idc hk0) (teE_circ cy ad O S1 hk0) rfl rfl rfl hl.1 (Nat.le_of_ble_eq_true rfl) ⟨(Nat.le_of_ble_eq_true rfl), (Nat.le_of_ble_eq_true rfl)⟩ dX1_passWeek_48 (fun H locs hR hS => ?_)
      refine lv_istore_n (lv' := [(3, .int r_8), (0, .ref (ad (20 * k0))), (2, .int v2)]) hx hb dX1_passWeek_51 rfl hl (by decide) rfl (fun ls hl => ?_)
      refine lv_iload_n hx hb dX1_passWeek_52 rfl (lv_at hl 0 rfl) ?_
      refine lv_sipush (v := (-9999 : Int32)) hx hb dX1_passWeek_53 (by decide) ?_
      refine lv_icmp_eq (tgt := 86) hx hb dX1_passWeek_56 (by decide) (fun c_10 => ?_) (fun c_10 => ?_)
      · replace hf := ite_t c_10 hf
        refine lv_iinc (v := (v2 + (1 : Int32))) (lv' := [(2, .int (v2 + (1 : Int32))), (3, .int r_8), (0, .ref (ad (20 * k0)))]) hx hb dX1_passWeek_86 hl (k := 2) rfl rfl (by decide) rfl (fun ls hl => ?_)
        refine lv_goto (tgt := 38) hx hb dX1_passWeek_89 (by decide) ?_
        exact ih S1 ((v2 + (1 : Int32))) _ _ _ hR hS (lv_sub hl [2, 0] rfl) hf
      · replace hf := ite_f c_10 hf
        refine lv_aload_n hx hb dX1_passWeek_59 rfl (lv_at hl 1 rfl) ?_
        refine lv_iload_n hx hb dX1_passWeek_60 rfl (lv_at hl 2 rfl) ?_
        refine lv_iload_n hx hb dX1_passWeek_61 rfl (lv_at hl 0 rfl) ?_
        obtain ⟨r_11, hq_12, hf⟩ := bd1_some hf
        refine kVi (id := (20 * k0)) (As := [.int v2, .int r_8]) (rest := []) X hR hS (zcX1_fit l D cy ad ba O S1 k0 v2 r_8 hk0 _ hq_12) (cwV 2 X.2.2.2.2.2.1 gX1_passWeek_X1_fit rfl rfl rfl kdX1_fit ⟨(Nat.le_of_ble_eq_true rfl), (Nat.le_of_ble_eq_true rfl)⟩) (te_idc hk0) (teE_circ cy ad O S1 hk0) rfl rfl rfl hl.1 (Nat.le_of_ble_eq_true rfl) ⟨(Nat.le_of_ble_eq_true rfl), (Nat.le_of_ble_eq_true rfl)⟩ dX1_passWeek_62 (fun H locs hR hS => ?_)
        refine lv_if_eq (tgt := 81) hx hb dX1_passWeek_65 (by decide) (fun c_13 => ?_) (fun c_13 => ?_)
        · replace hf := ite_t c_13 hf
          refine lv_aload_n hx hb dX1_passWeek_81 rfl (lv_at hl 1 rfl) ?_
          refine lv_iload_n hx hb dX1_passWeek_82 rfl (lv_at hl 2 rfl) ?_
          obtain ⟨S3, hq_15, hf⟩ := bd1_some hf
          refine kVv (id := (20 * k0)) (As := [.int v2]) (rest := []) X hR hS (zcX1_separate l D cy ad ba O S1 k0 v2 hk0 _ hq_15) (cwV 1 X.2.2.2.2.2.1 gX1_passWeek_X1_separate rfl rfl rfl kdX1_separate ⟨(Nat.le_of_ble_eq_true rfl), (Nat.le_of_ble_eq_true rfl)⟩) (te_idc hk0) (teE_circ cy ad O S1 hk0) rfl rfl rfl hl.1 (Nat.le_of_ble_eq_true rfl) ⟨(Nat.le_of_ble_eq_true rfl), (Nat.le_of_ble_eq_true rfl)⟩ dX1_passWeek_83 (fun H locs hR hS => ?_)
          refine lv_iinc (v := (v2 + (1 : Int32))) (lv' := [(2, .int (v2 + (1 : Int32))), (3, .int r_8), (0, .ref (ad (20 * k0)))]) hx hb dX1_passWeek_86 hl (k := 2) rfl rfl (by decide) rfl (fun ls hl => ?_)
          refine lv_goto (tgt := 38) hx hb dX1_passWeek_89 (by decide) ?_
          exact ih S3 ((v2 + (1 : Int32))) _ _ _ hR hS (lv_sub hl [2, 0] rfl) hf
        · replace hf := ite_f c_13 hf
          refine lv_aload_n hx hb dX1_passWeek_68 rfl (lv_at hl 1 rfl) ?_
          refine rg_1_0 X hR hk0 iX1_passWeek_1 wX1_passWeek_11 dX1_passWeek_69 ?_
          refine lv_iload_n hx hb dX1_passWeek_72 rfl (lv_at hl 2 rfl) ?_
          obtain ⟨h_16, hf⟩ := chk_some hf
          refine ra_mem X hR hk0 h_16 dX1_passWeek_73 ?_
          refine rg_3_6 X hR hk0 (tein_lt h_16) iX1_passWeek_3 wX1_passWeek_55 dX1_passWeek_74 ?_
          refine lv_iconst (v := (3 : Int32)) hx hb dX1_passWeek_77 (by decide) ?_
          refine lv_icmp_lt (tgt := 86) hx hb dX1_passWeek_78 (by decide) (fun c_17 => ?_) (fun c_17 => ?_)
          · replace hf := ite_t c_17 hf
            refine lv_iinc (v := (v2 + (1 : Int32))) (lv' := [(2, .int (v2 + (1 : Int32))), (3, .int r_8), (0, .ref (ad (20 * k0)))]) hx hb dX1_passWeek_86 hl (k := 2) rfl rfl (by decide) rfl (fun ls hl => ?_)
            refine lv_goto (tgt := 38) hx hb dX1_passWeek_89 (by decide) ?_
            exact ih S1 ((v2 + (1 : Int32))) _ _ _ hR hS (lv_sub hl [2, 0] rfl) hf
          · replace hf := ite_f c_17 hf
            refine lv_aload_n hx hb dX1_passWeek_81 rfl (lv_at hl 1 rfl) ?_
            refine lv_iload_n hx hb dX1_passWeek_82 rfl (lv_at hl 2 rfl) ?_
            obtain ⟨S4, hq_19, hf⟩ := bd1_some hf
            refine kVv (id := (20 * k0)) (As := [.int v2]) (rest := []) X hR hS (zcX1_separate l D cy ad ba O S1 k0 v2 hk0 _ hq_19) (cwV 1 X.2.2.2.2.2.1 gX1_passWeek_X1_separate rfl rfl rfl kdX1_separate ⟨(Nat.le_of_ble_eq_true rfl), (Nat.le_of_ble_eq_true rfl)⟩) (te_idc hk0) (teE_circ cy ad O S1 hk0) rfl rfl rfl hl.1 (Nat.le_of_ble_eq_true rfl) ⟨(Nat.le_of_ble_eq_true rfl), (Nat.le_of_ble_eq_true rfl)⟩ dX1_passWeek_83 (fun H locs hR hS => ?_)
            refine lv_iinc (v := (v2 + (1 : Int32))) (lv' := [(2, .int (v2 + (1 : Int32))), (3, .int r_8), (0, .ref (ad (20 * k0)))]) hx hb dX1_passWeek_86 hl (k := 2) rfl rfl (by decide) rfl (fun ls hl => ?_)
            refine lv_goto (tgt := 38) hx hb dX1_passWeek_89 (by decide) ?_
            exact ih S4 ((v2 + (1 : Int32))) _ _ _ hR hS (lv_sub hl [2, 0] rfl) hf
set_option maxRecDepth 100000 in
set_option maxHeartbeats 4000000 in
theorem bX1_passWeek_2 {p : Program} {l : Launch} {e : Env} {s : State} {m : MethodId} {args : Array Value} {below : List Frame} {meth : Method} {c : Code} {D : va_G} {cy : Nat → ClassId} {ad : Nat → Nat} {ba : Nat → Prop} {O : Int64} {S : teS}  {k0 : Nat} {x1 : Int32} {res : teS} (hk0 : k0 < 18) (X : teC wsX1_passWeek RX1 cX1_passWeek 4 none D cy ba p s m args meth c) : ∀ (n : Nat), ∀ (S1 : teS) (v2 : Int32) (H : Heap) (locs : List Loc) (ls : Array Slot), teR D cy ad ba O S1 H → va_S (teA ba) s.heap H locs → lv_has ls 4 [(0, .ref (ad (20 * k0))), (1, .int x1), (2, .int v2)] → fX1_passWeek_2 k0 x1 n S1 v2 = some res → W p l e (headSpec wsX1_passWeek rmX1_passWeek).room s m args below meth c H locs 0 0 (MQ below (va_Qv (fun (u : teS) => u = res) (fun u t => teR D cy ad ba O u t.heap) (teA ba)) args s 0 0 (teA ba)) (F0 m 2 ls []) := by
  have hx := X.1
  have hb := X.2.1
  have hown := X.2.2.2.2.1
  intro n
  induction n with
  | zero =>
    intro S1 v2 H locs ls hR hS hl hf
    exact nomatch hf
  | succ n ih =>
    intro S1 v2 H locs ls hR hS hl hf
    unfold fX1_passWeek_2 at hf
    refine lv_iload_n hx hb dX1_passWeek_2 rfl (lv_at hl 2 rfl) ?_
    refine lv_aload_n hx hb dX1_passWeek_3 rfl (lv_at hl 0 rfl) ?_
    refine rg_1_1 X hR hk0 iX1_passWeek_1 wX1_passWeek_18 dX1_passWeek_4 ?_
    refine lv_icmp_ge (tgt := 36) hx hb dX1_passWeek_7 (by decide) (fun c_1 => ?_) (fun c_1 => ?_)
    · replace hf := ite_t c_1 hf
      refine lv_iconst (v := (0 : Int32)) hx hb dX1_passWeek_36 (by decide) ?_
      refine lv_istore_n (lv' := [(2, .int (0 : Int32)), (0, .ref (ad (20 * k0))), (1, .int x1)]) hx hb dX1_passWeek_37 rfl hl (by decide) rfl (fun ls hl => ?_)
      exact bX1_passWeek_38 (S := S) (k0 := k0) (x1 := x1) hk0 X 2000 S1 ((0 : Int32)) _ _ _ hR hS (lv_sub hl [1, 0] rfl) hf
    · replace hf := ite_f c_1 hf
      refine lv_aload_n hx hb dX1_passWeek_10 rfl (lv_at hl 0 rfl) ?_
      refine lv_iload_n hx hb dX1_passWeek_11 rfl (lv_at hl 2 rfl) ?_
      obtain ⟨r_2, hq_3, hf⟩ := bd1_some hf
      refine kVi (id := (20 * k0)) (As := [.int v2]) (rest := []) X hR hS (zcX1_greaterPartner l D cy ad ba O S1 k0 v2 hk0 _ hq_3) (cwV 1 X.2.2.2.2.2.1 gX1_passWeek_X1_greaterPartner rfl rfl rfl kdX1_greaterPartner ⟨(Nat.le_of_ble_eq_true rfl), (Nat.le_of_ble_eq_true rfl)⟩) (te_idc hk0) (teE_circ cy ad O S1 hk0) rfl rfl rfl hl.1 (Nat.le_of_ble_eq_true rfl) ⟨(Nat.le_of_ble_eq_true rfl), (Nat.le_of_ble_eq_true rfl)⟩ dX1_passWeek_12 (fun H locs hR hS => ?_)
      refine lv_istore_n (lv' := [(3, .int r_2), (0, .ref (ad (20 * k0))), (1, .int x1), (2, .int v2)]) hx hb dX1_passWeek_15 rfl hl (by decide) rfl (fun ls hl => ?_)
      refine lv_iload_n hx hb dX1_passWeek_16 rfl (lv_at hl 0 rfl) ?_
      refine lv_sipush (v := (-9999 : Int32)) hx hb dX1_passWeek_17 (by decide) ?_
      refine lv_icmp_eq (tgt := 30) hx hb dX1_passWeek_20 (by decide) (fun c_4 => ?_) (fun c_4 => ?_)
      · replace hf := ite_t c_4 hf
        refine lv_iinc (v := (v2 + (1 : Int32))) (lv' := [(2, .int (v2 + (1 : Int32))), (3, .int r_2), (0, .ref (ad (20 * k0))), (1, .int x1)]) hx hb dX1_passWeek_30 hl (k := 3) rfl rfl (by decide) rfl (fun ls hl => ?_)
        refine lv_goto (tgt := 2) hx hb dX1_passWeek_33 (by decide) ?_
        exact ih S1 ((v2 + (1 : Int32))) _ _ _ hR hS (lv_sub hl [2, 3, 0] rfl) hf
      · replace hf := ite_f c_4 hf
        refine lv_aload_n hx hb dX1_passWeek_23 rfl (lv_at hl 1 rfl) ?_
        refine lv_iload_n hx hb dX1_passWeek_24 rfl (lv_at hl 3 rfl) ?_
        refine lv_iload_n hx hb dX1_passWeek_25 rfl (lv_at hl 0 rfl) ?_
        refine lv_iload_n hx hb dX1_passWeek_26 rfl (lv_at hl 2 rfl) ?_
        obtain ⟨S2, hq_6, hf⟩ := bd1_some hf
        refine kVv (id := (20 * k0)) (As := [.int v2, .int r_2, .int x1]) (rest := []) X hR hS (zcX1_passWeekOfPair l D cy ad ba O S1 k0 v2 r_2 x1 hk0 _ hq_6) (cwV 3 X.2.2.2.2.2.1 gX1_passWeek_X1_passWeekOfPair rfl rfl rfl kdX1_passWeekOfPair ⟨(Nat.le_of_ble_eq_true rfl), (Nat.le_of_ble_eq_true rfl)⟩) (te_idc hk0) (teE_circ cy ad O S1 hk0) rfl rfl rfl hl.1 (Nat.le_of_ble_eq_true rfl) ⟨(Nat.le_of_ble_eq_true rfl), (Nat.le_of_ble_eq_true rfl)⟩ dX1_passWeek_27 (fun H locs hR hS => ?_)
        refine lv_iinc (v := (v2 + (1 : Int32))) (lv' := [(2, .int (v2 + (1 : Int32))), (3, .int r_2), (0, .ref (ad (20 * k0))), (1, .int x1)]) hx hb dX1_passWeek_30 hl (k := 3) rfl rfl (by decide) rfl (fun ls hl => ?_)
        refine lv_goto (tgt := 2) hx hb dX1_passWeek_33 (by decide) ?_
        exact ih S2 ((v2 + (1 : Int32))) _ _ _ hR hS (lv_sub hl [2, 3, 0] rfl) hf
set_option maxRecDepth 100000 in
set_option maxHeartbeats 4000000 in
theorem bX1_passWeek_0 {p : Program} {l : Launch} {e : Env} {s : State} {m : MethodId} {args : Array Value} {below : List Frame} {meth : Method} {c : Code} {D : va_G} {cy : Nat → ClassId} {ad : Nat → Nat} {ba : Nat → Prop} {O : Int64} {S : teS}  {k0 : Nat} {x1 : Int32} {res : teS} (hk0 : k0 < 18) (X : teC wsX1_passWeek RX1 cX1_passWeek 4 none D cy ba p s m args meth c) (H : Heap) (locs : List Loc) (ls : Array Slot) (hR : teR D cy ad ba O S H) (hS : va_S (teA ba) s.heap H locs) (hl : lv_has ls 4 [(0, .ref (ad (20 * k0))), (1, .int x1)]) (hf : fX1_passWeek k0 x1 S = some res) : W p l e (headSpec wsX1_passWeek rmX1_passWeek).room s m args below meth c H locs 0 0 (MQ below (va_Qv (fun (u : teS) => u = res) (fun u t => teR D cy ad ba O u t.heap) (teA ba)) args s 0 0 (teA ba)) (F0 m 0 ls []) := by
  have hx := X.1
  have hb := X.2.1
  have hown := X.2.2.2.2.1
  unfold fX1_passWeek at hf
  refine lv_iconst (v := (0 : Int32)) hx hb dX1_passWeek_0 (by decide) ?_
  refine lv_istore_n (lv' := [(2, .int (0 : Int32)), (0, .ref (ad (20 * k0))), (1, .int x1)]) hx hb dX1_passWeek_1 rfl hl (by decide) rfl (fun ls hl => ?_)
  exact bX1_passWeek_2 (S := S) (k0 := k0) (x1 := x1) hk0 X 2000 S ((0 : Int32)) _ _ _ hR hS (lv_sub hl [1, 2, 0] rfl) hf
theorem zcX1_passWeek (l : Launch) (D : va_G) (cy : Nat → ClassId) (ad : Nat → Nat) (ba : Nat → Prop) (O : Int64) (S : teS) (k0 : Nat) (x1 : Int32) (hk0 : k0 < 18) (res : teS) (hf : fX1_passWeek k0 x1 S = some res) : cV l yX1_passWeek wsX1_passWeek rmX1_passWeek D cy ad ba O S [.ref (ad (20 * k0)), .int x1] res :=
  te_of (by decide +kernel) rfl (Nat.le_of_ble_eq_true rfl) (fun p e s m below meth c ls X hR hS hl => bX1_passWeek_0 (S := S) (k0 := k0) (x1 := x1) hk0 X _ _ _ hR hS hl hf)
