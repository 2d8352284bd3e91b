abbrev rmL_append : Room := { frames := 8, cells := 2, slots := 12, locals := 133 }
theorem kdL_append : yL_append.cls = RL ∧ yL_append.cls ≠ "java/lang/invoke/MethodHandle" ∧ yL_append.cls ≠ "java/lang/invoke/VarHandle" ∧ (parseMethodDescriptor yL_append.desc).map (fun d => d.parameters.length) = some 3 := by decide +kernel
theorem wL_append_k13 : Cond.classLink RL 13 "java/lang/IllegalArgumentException" ∈ wsL_append := by decide +kernel
theorem wL_append_k15 : Cond.classLink RL 15 "java/lang/IllegalStateException" ∈ wsL_append := by decide +kernel
set_option maxRecDepth 100000 in
set_option maxHeartbeats 4000000 in
theorem bL_append_0 {p : Program} {l : Launch} {e : Env} {s : State} {m : MethodId} {args : Array Value} {below : List Frame} {meth : Method} {c : Code} {D : va_G} {cy : Nat → ClassId} {ad : Nat → Nat} {ba : Nat} {O : Int64} {S : teS}  {x1 : Int32} {res : (Int32 × (Int64 × teS))} (X : teC wsL_append RL cL_append 4 (some .int) D cy ba p s m args meth c) (htab : c.exceptionTable.toList = tableOf [(0, 9, 12, 13), (0, 9, 15, 15)]) (hl0 : l.stackTraces = false) (H : Heap) (locs : List Loc) (ls : Array Slot) (hR : teR D cy ad ba O S H) (hS : va_S (teA ba) s.heap H locs) (hl : lv_has ls 4 [(0, .ref (ad 360)), (1, .int x1), (2, .ref (ad 379))]) (hf : fL_append x1 S O = some res) : W p l e (headSpec wsL_append rmL_append).room s m args below meth c H locs 0 0 (vx_MQ below (va_Qi (fun a (u : Int64 × teS) => a = res.1 ∧ u = res.2) (fun u t => teR D cy ad ba u.1 u.2 t.heap) (teA ba)) (vx_X (fun _ : Unit => False) (fun _ _ _ => True) (teA ba)) args s 2 12 (teA ba)) (F0 m 0 ls []) := by
  have hx := X.1
  have hb := X.2.1
  have hown := X.2.2.2.2.1
  unfold fL_append at hf
  refine lv_aload_n hx hb dL_append_0 rfl (lv_at hl 2 rfl) ?_
  refine lv_iconst (v := (0 : Int32)) hx hb dL_append_1 (by decide) ?_
  refine lv_aload_n hx hb dL_append_2 rfl (lv_at hl 0 rfl) ?_
  refine lv_iload_n hx hb dL_append_3 rfl (lv_at hl 1 rfl) ?_
  rcases bxw_some hf with ⟨e_1, hq_2, hf⟩ | ⟨r_3, S1, hq_2, hf⟩
  · by_cases c_4 : e_1 = 1
    · subst c_4
      replace hf := ite_t rfl hf
      refine kVql (id := 360) (As := [.int x1]) (rest := [.int (0 : Int32), .ref (ad 379)]) X hR hS (zcX5_append l D cy ad ba O S x1 hl0 _ hq_2) (cwV 1 X.2.2.2.2.2.1 gL_append_X5_append rfl rfl rfl kdX5_append ⟨(Nat.le_of_ble_eq_true rfl), (Nat.le_of_ble_eq_true rfl)⟩) (by decide) rfl rfl rfl rfl hl.1 (Nat.le_of_ble_eq_true rfl) ⟨(Nat.le_of_ble_eq_true rfl), (Nat.le_of_ble_eq_true rfl)⟩ dL_append_4 (fun ce q9 H locs hR hS h3 h4 h5 => ?_)
      refine te_catch (c0 := 1) X htab [] [(0, 9, 15, 15)] (0, 9, 12, 13) rfl (by decide) (by decide) (fun z hz => nomatch hz) (by decide) (by decide) wL_append_k13 h3 h4 h5 ?_
      refine lv_astore_n (lv' := [(3, .ref q9), (0, .ref (ad 360)), (1, .int x1), (2, .ref (ad 379))]) hx hb dL_append_12 rfl hl (by decide) rfl (fun ls hl => ?_)
      refine lv_iconst (v := (1 : Int32)) hx hb dL_append_13 (by decide) ?_
      exact eLx X hR hS (Option.some.inj hf) (Nat.le_of_ble_eq_true rfl) (Nat.le_of_ble_eq_true rfl) dL_append_14
    replace hf := ite_f c_4 hf
    by_cases c_5 : e_1 = 2
    · subst c_5
      replace hf := ite_t rfl hf
      refine kVql (id := 360) (As := [.int x1]) (rest := [.int (0 : Int32), .ref (ad 379)]) X hR hS (zcX5_append l D cy ad ba O S x1 hl0 _ hq_2) (cwV 1 X.2.2.2.2.2.1 gL_append_X5_append rfl rfl rfl kdX5_append ⟨(Nat.le_of_ble_eq_true rfl), (Nat.le_of_ble_eq_true rfl)⟩) (by decide) rfl rfl rfl rfl hl.1 (Nat.le_of_ble_eq_true rfl) ⟨(Nat.le_of_ble_eq_true rfl), (Nat.le_of_ble_eq_true rfl)⟩ dL_append_4 (fun ce q9 H locs hR hS h3 h4 h5 => ?_)
      refine te_catch (c0 := 2) X htab [(0, 9, 12, 13)] [] (0, 9, 15, 15) rfl (by decide) (by decide) (List.forall_mem_cons.mpr ⟨⟨by decide, 1, by decide, by decide, by decide, wL_append_k13⟩, fun z hz => nomatch hz⟩) (by decide) (by decide) wL_append_k15 h3 h4 h5 ?_
      refine lv_astore_n (lv' := [(3, .ref q9), (0, .ref (ad 360)), (1, .int x1), (2, .ref (ad 379))]) hx hb dL_append_15 rfl hl (by decide) rfl (fun ls hl => ?_)
      refine lv_iconst (v := (2 : Int32)) hx hb dL_append_16 (by decide) ?_
      exact eLx X hR hS (Option.some.inj hf) (Nat.le_of_ble_eq_true rfl) (Nat.le_of_ble_eq_true rfl) dL_append_17
    replace hf := ite_f c_5 hf
    exact nomatch hf
  · refine kVqr (id := 360) (As := [.int x1]) (rest := [.int (0 : Int32), .ref (ad 379)]) X hR hS (zcX5_append l D cy ad ba O S x1 hl0 _ hq_2) (cwV 1 X.2.2.2.2.2.1 gL_append_X5_append rfl rfl rfl kdX5_append ⟨(Nat.le_of_ble_eq_true rfl), (Nat.le_of_ble_eq_true rfl)⟩) (by decide) rfl rfl rfl rfl hl.1 (Nat.le_of_ble_eq_true rfl) ⟨(Nat.le_of_ble_eq_true rfl), (Nat.le_of_ble_eq_true rfl)⟩ dL_append_4 (fun H locs hR hS => ?_)
    refine lv_i2l hx hb dL_append_7 rfl ?_
    refine te_last X hR hS dL_append_8 (fun H locs hR hS => ?_)
    refine lv_goto (tgt := 18) hx hb dL_append_9 (by decide) ?_
    refine lv_iconst (v := (0 : Int32)) hx hb dL_append_18 (by decide) ?_
    exact eLx X hR hS (Option.some.inj hf) (Nat.le_of_ble_eq_true rfl) (Nat.le_of_ble_eq_true rfl) dL_append_19
theorem zcL_append (l : Launch) (D : va_G) (cy : Nat → ClassId) (ad : Nat → Nat) (ba : Nat) (O : Int64) (S : teS) (x1 : Int32) (hl0 : l.stackTraces = false) (res : (Int32 × (Int64 × teS))) (hf : fL_append x1 S O = some res) : lI l yL_append wsL_append rmL_append 2 12 D cy ad ba O S [.ref (ad 360), .int x1, .ref (ad 379)] res :=
  te_ofh (hh := [(0, 9, 12, 13), (0, 9, 15, 15)]) (by decide) rfl (Nat.le_of_ble_eq_true rfl) (fun p e s m below meth c ls X htab hR hS hl => bL_append_0 (S := S) (x1 := x1) X htab hl0 _ _ _ hR hS hl hf)
abbrev rmL_load : Room := { frames := 7, cells := 1, slots := 6, locals := 111 }
theorem kdL_load : yL_load.cls = RL ∧ yL_load.cls ≠ "java/lang/invoke/MethodHandle" ∧ yL_load.cls ≠ "java/lang/invoke/VarHandle" ∧ (parseMethodDescriptor yL_load.desc).map (fun d => d.parameters.length) = some 2 := by decide +kernel
theorem wL_load_k15 : Cond.classLink RL 15 "java/lang/IllegalStateException" ∈ wsL_load := by decide +kernel
set_option maxRecDepth 100000 in
set_option maxHeartbeats 4000000 in
theorem bL_load_0 {p : Program} {l : Launch} {e : Env} {s : State} {m : MethodId} {args : Array Value} {below : List Frame} {meth : Method} {c : Code} {D : va_G} {cy : Nat → ClassId} {ad : Nat → Nat} {ba : Nat} {O : Int64} {S : teS}  {res : (Int32 × (Int64 × teS))} (X : teC wsL_load RL cL_load 3 (some .int) D cy ba p s m args meth c) (htab : c.exceptionTable.toList = tableOf [(0, 8, 11, 15)]) (hl0 : l.stackTraces = false) (H : Heap) (locs : List Loc) (ls : Array Slot) (hR : teR D cy ad ba O S H) (hS : va_S (teA ba) s.heap H locs) (hl : lv_has ls 3 [(0, .ref (ad 360)), (1, .ref (ad 379))]) (hf : fL_load S O = some res) : W p l e (headSpec wsL_load rmL_load).room s m args below meth c H locs 0 0 (vx_MQ below (va_Qi (fun a (u : Int64 × teS) => a = res.1 ∧ u = res.2) (fun u t => teR D cy ad ba u.1 u.2 t.heap) (teA ba)) (vx_X (fun _ : Unit => False) (fun _ _ _ => True) (teA ba)) args s 1 6 (teA ba)) (F0 m 0 ls []) := by
  have hx := X.1
  have hb := X.2.1
  have hown := X.2.2.2.2.1
  unfold fL_load at hf
  refine lv_aload_n hx hb dL_load_0 rfl (lv_at hl 1 rfl) ?_
  refine lv_iconst (v := (0 : Int32)) hx hb dL_load_1 (by decide) ?_
  refine lv_aload_n hx hb dL_load_2 rfl (lv_at hl 0 rfl) ?_
  rcases bxw_some hf with ⟨e_1, hq_2, hf⟩ | ⟨r_3, S1, hq_2, hf⟩
  · by_cases c_4 : e_1 = 2
    · subst c_4
      replace hf := ite_t rfl hf
      refine kVql (id := 360) (As := []) (rest := [.int (0 : Int32), .ref (ad 379)]) X hR hS (zcX5_load l D cy ad ba O S hl0 _ hq_2) (cwV 0 X.2.2.2.2.2.1 gL_load_X5_load rfl rfl rfl kdX5_load ⟨(Nat.le_of_ble_eq_true rfl), (Nat.le_of_ble_eq_true rfl)⟩) (by decide) rfl rfl rfl rfl hl.1 (Nat.le_of_ble_eq_true rfl) ⟨(Nat.le_of_ble_eq_true rfl), (Nat.le_of_ble_eq_true rfl)⟩ dL_load_3 (fun ce q9 H locs hR hS h3 h4 h5 => ?_)
      refine te_catch (c0 := 2) X htab [] [] (0, 8, 11, 15) rfl (by decide) (by decide) (fun z hz => nomatch hz) (by decide) (by decide) wL_load_k15 h3 h4 h5 ?_
      refine lv_astore_n (lv' := [(2, .ref q9), (0, .ref (ad 360)), (1, .ref (ad 379))]) hx hb dL_load_11 rfl hl (by decide) rfl (fun ls hl => ?_)
      refine lv_iconst (v := (1 : Int32)) hx hb dL_load_12 (by decide) ?_
      exact eLx X hR hS (Option.some.inj hf) (Nat.le_of_ble_eq_true rfl) (Nat.le_of_ble_eq_true rfl) dL_load_13
    replace hf := ite_f c_4 hf
    exact nomatch hf
  · refine kVqr (id := 360) (As := []) (rest := [.int (0 : Int32), .ref (ad 379)]) X hR hS (zcX5_load l D cy ad ba O S hl0 _ hq_2) (cwV 0 X.2.2.2.2.2.1 gL_load_X5_load rfl rfl rfl kdX5_load ⟨(Nat.le_of_ble_eq_true rfl), (Nat.le_of_ble_eq_true rfl)⟩) (by decide) rfl rfl rfl rfl hl.1 (Nat.le_of_ble_eq_true rfl) ⟨(Nat.le_of_ble_eq_true rfl), (Nat.le_of_ble_eq_true rfl)⟩ dL_load_3 (fun H locs hR hS => ?_)
    refine lv_i2l hx hb dL_load_6 rfl ?_
    refine te_last X hR hS dL_load_7 (fun H locs hR hS => ?_)
    refine lv_goto (tgt := 14) hx hb dL_load_8 (by decide) ?_
    refine lv_iconst (v := (0 : Int32)) hx hb dL_load_14 (by decide) ?_
    exact eLx X hR hS (Option.some.inj hf) (Nat.le_of_ble_eq_true rfl) (Nat.le_of_ble_eq_true rfl) dL_load_15
theorem zcL_load (l : Launch) (D : va_G) (cy : Nat → ClassId) (ad : Nat → Nat) (ba : Nat) (O : Int64) (S : teS) (hl0 : l.stackTraces = false) (res : (Int32 × (Int64 × teS))) (hf : fL_load S O = some res) : lI l yL_load wsL_load rmL_load 1 6 D cy ad ba O S [.ref (ad 360), .ref (ad 379)] res :=
  te_ofh (hh := [(0, 8, 11, 15)]) (by decide) rfl (Nat.le_of_ble_eq_true rfl) (fun p e s m below meth c ls X htab hR hS hl => bL_load_0 (S := S)  X htab hl0 _ _ _ hR hS hl hf)
abbrev rmL_about : Room := { frames := 7, cells := 1, slots := 6, locals := 135 }
theorem kdL_about : yL_about.cls = RL ∧ yL_about.cls ≠ "java/lang/invoke/MethodHandle" ∧ yL_about.cls ≠ "java/lang/invoke/VarHandle" ∧ (parseMethodDescriptor yL_about.desc).map (fun d => d.parameters.length) = some 3 := by decide +kernel
theorem wL_about_k13 : Cond.classLink RL 13 "java/lang/IllegalArgumentException" ∈ wsL_about := by decide +kernel
set_option maxRecDepth 100000 in
set_option maxHeartbeats 4000000 in
theorem bL_about_0 {p : Program} {l : Launch} {e : Env} {s : State} {m : MethodId} {args : Array Value} {below : List Frame} {meth : Method} {c : Code} {D : va_G} {cy : Nat → ClassId} {ad : Nat → Nat} {ba : Nat} {O : Int64} {S : teS}  {x1 : Int32} {res : (Int32 × (Int64 × teS))} (X : teC wsL_about RL cL_about 4 (some .int) D cy ba p s m args meth c) (htab : c.exceptionTable.toList = tableOf [(0, 9, 12, 13)]) (hl0 : l.stackTraces = false) (H : Heap) (locs : List Loc) (ls : Array Slot) (hR : teR D cy ad ba O S H) (hS : va_S (teA ba) s.heap H locs) (hl : lv_has ls 4 [(0, .ref (ad 360)), (1, .int x1), (2, .ref (ad 379))]) (hf : fL_about x1 S O = some res) : W p l e (headSpec wsL_about rmL_about).room s m args below meth c H locs 0 0 (vx_MQ below (va_Qi (fun a (u : Int64 × teS) => a = res.1 ∧ u = res.2) (fun u t => teR D cy ad ba u.1 u.2 t.heap) (teA ba)) (vx_X (fun _ : Unit => False) (fun _ _ _ => True) (teA ba)) args s 1 6 (teA ba)) (F0 m 0 ls []) := by
  have hx := X.1
  have hb := X.2.1
  have hown := X.2.2.2.2.1
  unfold fL_about at hf
  refine lv_aload_n hx hb dL_about_0 rfl (lv_at hl 2 rfl) ?_
  refine lv_iconst (v := (0 : Int32)) hx hb dL_about_1 (by decide) ?_
  refine lv_aload_n hx hb dL_about_2 rfl (lv_at hl 0 rfl) ?_
  refine lv_iload_n hx hb dL_about_3 rfl (lv_at hl 1 rfl) ?_
  rcases bxw_some hf with ⟨e_1, hq_2, hf⟩ | ⟨r_3, S1, hq_2, hf⟩
  · by_cases c_4 : e_1 = 1
    · subst c_4
      replace hf := ite_t rfl hf
      refine kVql (id := 360) (As := [.int x1]) (rest := [.int (0 : Int32), .ref (ad 379)]) X hR hS (zcX5_about l D cy ad ba O S x1 hl0 _ hq_2) (cwV 1 X.2.2.2.2.2.1 gL_about_X5_about rfl rfl rfl kdX5_about ⟨(Nat.le_of_ble_eq_true rfl), (Nat.le_of_ble_eq_true rfl)⟩) (by decide) rfl rfl rfl rfl hl.1 (Nat.le_of_ble_eq_true rfl) ⟨(Nat.le_of_ble_eq_true rfl), (Nat.le_of_ble_eq_true rfl)⟩ dL_about_4 (fun ce q9 H locs hR hS h3 h4 h5 => ?_)
      refine te_catch (c0 := 1) X htab [] [] (0, 9, 12, 13) rfl (by decide) (by decide) (fun z hz => nomatch hz) (by decide) (by decide) wL_about_k13 h3 h4 h5 ?_
      refine lv_astore_n (lv' := [(3, .ref q9), (0, .ref (ad 360)), (1, .int x1), (2, .ref (ad 379))]) hx hb dL_about_12 rfl hl (by decide) rfl (fun ls hl => ?_)
      refine lv_iconst (v := (1 : Int32)) hx hb dL_about_13 (by decide) ?_
      exact eLx X hR hS (Option.some.inj hf) (Nat.le_of_ble_eq_true rfl) (Nat.le_of_ble_eq_true rfl) dL_about_14
    replace hf := ite_f c_4 hf
    exact nomatch hf
  · refine kVqr (id := 360) (As := [.int x1]) (rest := [.int (0 : Int32), .ref (ad 379)]) X hR hS (zcX5_about l D cy ad ba O S x1 hl0 _ hq_2) (cwV 1 X.2.2.2.2.2.1 gL_about_X5_about rfl rfl rfl kdX5_about ⟨(Nat.le_of_ble_eq_true rfl), (Nat.le_of_ble_eq_true rfl)⟩) (by decide) rfl rfl rfl rfl hl.1 (Nat.le_of_ble_eq_true rfl) ⟨(Nat.le_of_ble_eq_true rfl), (Nat.le_of_ble_eq_true rfl)⟩ dL_about_4 (fun H locs hR hS => ?_)
    refine lv_i2l hx hb dL_about_7 rfl ?_
    refine te_last X hR hS dL_about_8 (fun H locs hR hS => ?_)
    refine lv_goto (tgt := 15) hx hb dL_about_9 (by decide) ?_
    refine lv_iconst (v := (0 : Int32)) hx hb dL_about_15 (by decide) ?_
    exact eLx X hR hS (Option.some.inj hf) (Nat.le_of_ble_eq_true rfl) (Nat.le_of_ble_eq_true rfl) dL_about_16
theorem zcL_about (l : Launch) (D : va_G) (cy : Nat → ClassId) (ad : Nat → Nat) (ba : Nat) (O : Int64) (S : teS) (x1 : Int32) (hl0 : l.stackTraces = false) (res : (Int32 × (Int64 × teS))) (hf : fL_about x1 S O = some res) : lI l yL_about wsL_about rmL_about 1 6 D cy ad ba O S [.ref (ad 360), .int x1, .ref (ad 379)] res :=
  te_ofh (hh := [(0, 9, 12, 13)]) (by decide) rfl (Nat.le_of_ble_eq_true rfl) (fun p e s m below meth c ls X htab hR hS hl => bL_about_0 (S := S) (x1 := x1) X htab hl0 _ _ _ hR hS hl hf)
abbrev rmL_member : Room := { frames := 8, cells := 2, slots := 12, locals := 134 }
theorem kdL_member : yL_member.cls = RL ∧ yL_member.cls ≠ "java/lang/invoke/MethodHandle" ∧ yL_member.cls ≠ "java/lang/invoke/VarHandle" ∧ (parseMethodDescriptor yL_member.desc).map (fun d => d.parameters.length) = some 4 := by decide +kernel
theorem wL_member_k28 : Cond.classLink RL 28 "java/lang/IndexOutOfBoundsException" ∈ wsL_member := by decide +kernel
theorem wL_member_k13 : Cond.classLink RL 13 "java/lang/IllegalArgumentException" ∈ wsL_member := by decide +kernel
set_option maxRecDepth 100000 in
set_option maxHeartbeats 4000000 in
theorem bL_member_0 {p : Program} {l : Launch} {e : Env} {s : State} {m : MethodId} {args : Array Value} {below : List Frame} {meth : Method} {c : Code} {D : va_G} {cy : Nat → ClassId} {ad : Nat → Nat} {ba : Nat} {O : Int64} {S : teS}  {x1 : Int32} {x2 : Int32} {res : (Int32 × (Int64 × teS))} (X : teC wsL_member RL cL_member 5 (some .int) D cy ba p s m args meth c) (htab : c.exceptionTable.toList = tableOf [(0, 10, 13, 28), (0, 10, 17, 13)]) (hl0 : l.stackTraces = false) (H : Heap) (locs : List Loc) (ls : Array Slot) (hR : teR D cy ad ba O S H) (hS : va_S (teA ba) s.heap H locs) (hl : lv_has ls 5 [(0, .ref (ad 360)), (1, .int x1), (2, .int x2), (3, .ref (ad 379))]) (hf : fL_member x1 x2 S O = some res) : W p l e (headSpec wsL_member rmL_member).room s m args below meth c H locs 0 0 (vx_MQ below (va_Qi (fun a (u : Int64 × teS) => a = res.1 ∧ u = res.2) (fun u t => teR D cy ad ba u.1 u.2 t.heap) (teA ba)) (vx_X (fun _ : Unit => False) (fun _ _ _ => True) (teA ba)) args s 2 12 (teA ba)) (F0 m 0 ls []) := by
  have hx := X.1
  have hb := X.2.1
  have hown := X.2.2.2.2.1
  unfold fL_member at hf
  refine lv_aload_n hx hb dL_member_0 rfl (lv_at hl 3 rfl) ?_
  refine lv_iconst (v := (0 : Int32)) hx hb dL_member_1 (by decide) ?_
  refine lv_aload_n hx hb dL_member_2 rfl (lv_at hl 0 rfl) ?_
  refine lv_iload_n hx hb dL_member_3 rfl (lv_at hl 1 rfl) ?_
  refine lv_iload_n hx hb dL_member_4 rfl (lv_at hl 2 rfl) ?_
  rcases bxw_some hf with ⟨e_1, hq_2, hf⟩ | ⟨r_3, S1, hq_2, hf⟩
  · by_cases c_4 : e_1 = 3
    · subst c_4
      replace hf := ite_t rfl hf
      refine kVql (id := 360) (As := [.int x1, .int x2]) (rest := [.int (0 : Int32), .ref (ad 379)]) X hR hS (zcX5_member l D cy ad ba O S x1 x2 hl0 _ hq_2) (cwV 2 X.2.2.2.2.2.1 gL_member_X5_member rfl rfl rfl kdX5_member ⟨(Nat.le_of_ble_eq_true rfl), (Nat.le_of_ble_eq_true rfl)⟩) (by decide) rfl rfl rfl rfl hl.1 (Nat.le_of_ble_eq_true rfl) ⟨(Nat.le_of_ble_eq_true rfl), (Nat.le_of_ble_eq_true rfl)⟩ dL_member_5 (fun ce q9 H locs hR hS h3 h4 h5 => ?_)
      refine te_catch (c0 := 3) X htab [] [(0, 10, 17, 13)] (0, 10, 13, 28) rfl (by decide) (by decide) (fun z hz => nomatch hz) (by decide) (by decide) wL_member_k28 h3 h4 h5 ?_
      refine lv_astore (lv' := [(4, .ref q9), (0, .ref (ad 360)), (1, .int x1), (2, .int x2), (3, .ref (ad 379))]) hx hb dL_member_13 hl (by decide) rfl (fun ls hl => ?_)
      refine lv_iconst (v := (1 : Int32)) hx hb dL_member_15 (by decide) ?_
      exact eLx X hR hS (Option.some.inj hf) (Nat.le_of_ble_eq_true rfl) (Nat.le_of_ble_eq_true rfl) dL_member_16
    replace hf := ite_f c_4 hf
    by_cases c_5 : e_1 = 1
    · subst c_5
      replace hf := ite_t rfl hf
      refine kVql (id := 360) (As := [.int x1, .int x2]) (rest := [.int (0 : Int32), .ref (ad 379)]) X hR hS (zcX5_member l D cy ad ba O S x1 x2 hl0 _ hq_2) (cwV 2 X.2.2.2.2.2.1 gL_member_X5_member rfl rfl rfl kdX5_member ⟨(Nat.le_of_ble_eq_true rfl), (Nat.le_of_ble_eq_true rfl)⟩) (by decide) rfl rfl rfl rfl hl.1 (Nat.le_of_ble_eq_true rfl) ⟨(Nat.le_of_ble_eq_true rfl), (Nat.le_of_ble_eq_true rfl)⟩ dL_member_5 (fun ce q9 H locs hR hS h3 h4 h5 => ?_)
      refine te_catch (c0 := 1) X htab [(0, 10, 13, 28)] [] (0, 10, 17, 13) rfl (by decide) (by decide) (List.forall_mem_cons.mpr ⟨⟨by decide, 3, by decide, by decide, by decide, wL_member_k28⟩, fun z hz => nomatch hz⟩) (by decide) (by decide) wL_member_k13 h3 h4 h5 ?_
      refine lv_astore (lv' := [(4, .ref q9), (0, .ref (ad 360)), (1, .int x1), (2, .int x2), (3, .ref (ad 379))]) hx hb dL_member_17 hl (by decide) rfl (fun ls hl => ?_)
      refine lv_iconst (v := (2 : Int32)) hx hb dL_member_19 (by decide) ?_
      exact eLx X hR hS (Option.some.inj hf) (Nat.le_of_ble_eq_true rfl) (Nat.le_of_ble_eq_true rfl) dL_member_20
    replace hf := ite_f c_5 hf
    exact nomatch hf
  · refine kVqr (id := 360) (As := [.int x1, .int x2]) (rest := [.int (0 : Int32), .ref (ad 379)]) X hR hS (zcX5_member l D cy ad ba O S x1 x2 hl0 _ hq_2) (cwV 2 X.2.2.2.2.2.1 gL_member_X5_member rfl rfl rfl kdX5_member ⟨(Nat.le_of_ble_eq_true rfl), (Nat.le_of_ble_eq_true rfl)⟩) (by decide) rfl rfl rfl rfl hl.1 (Nat.le_of_ble_eq_true rfl) ⟨(Nat.le_of_ble_eq_true rfl), (Nat.le_of_ble_eq_true rfl)⟩ dL_member_5 (fun H locs hR hS => ?_)
    refine lv_i2l hx hb dL_member_8 rfl ?_
    refine te_last X hR hS dL_member_9 (fun H locs hR hS => ?_)
    refine lv_goto (tgt := 21) hx hb dL_member_10 (by decide) ?_
    refine lv_iconst (v := (0 : Int32)) hx hb dL_member_21 (by decide) ?_
    exact eLx X hR hS (Option.some.inj hf) (Nat.le_of_ble_eq_true rfl) (Nat.le_of_ble_eq_true rfl) dL_member_22
theorem zcL_member (l : Launch) (D : va_G) (cy : Nat → ClassId) (ad : Nat → Nat) (ba : Nat) (O : Int64) (S : teS) (x1 : Int32) (x2 : Int32) (hl0 : l.stackTraces = false) (res : (Int32 × (Int64 × teS))) (hf : fL_member x1 x2 S O = some res) : lI l yL_member wsL_member rmL_member 2 12 D cy ad ba O S [.ref (ad 360), .int x1, .int x2, .ref (ad 379)] res :=
  te_ofh (hh := [(0, 10, 13, 28), (0, 10, 17, 13)]) (by decide) rfl (Nat.le_of_ble_eq_true rfl) (fun p e s m below meth c ls X htab hR hS hl => bL_member_0 (S := S) (x1 := x1) (x2 := x2) X htab hl0 _ _ _ hR hS hl hf)
abbrev rmL_both : Room := { frames := 9, cells := 4, slots := 24, locals := 156 }
theorem kdL_both : yL_both.cls = RL ∧ yL_both.cls ≠ "java/lang/invoke/MethodHandle" ∧ yL_both.cls ≠ "java/lang/invoke/VarHandle" ∧ (parseMethodDescriptor yL_both.desc).map (fun d => d.parameters.length) = some 5 := by decide +kernel
theorem wL_both_k28 : Cond.classLink RL 28 "java/lang/IndexOutOfBoundsException" ∈ wsL_both := by decide +kernel
theorem wL_both_k13 : Cond.classLink RL 13 "java/lang/IllegalArgumentException" ∈ wsL_both := by decide +kernel
set_option maxRecDepth 100000 in
set_option maxHeartbeats 4000000 in
theorem bL_both_0 {p : Program} {l : Launch} {e : Env} {s : State} {m : MethodId} {args : Array Value} {below : List Frame} {meth : Method} {c : Code} {D : va_G} {cy : Nat → ClassId} {ad : Nat → Nat} {ba : Nat} {O : Int64} {S : teS}  {x1 : Int32} {x2 : Int32} {x3 : Int32} {res : (Int32 × (Int64 × teS))} (X : teC wsL_both RL cL_both 6 (some .int) D cy ba p s m args meth c) (htab : c.exceptionTable.toList = tableOf [(0, 12, 15, 28), (0, 12, 19, 13)]) (hl0 : l.stackTraces = false) (H : Heap) (locs : List Loc) (ls : Array Slot) (hR : teR D cy ad ba O S H) (hS : va_S (teA ba) s.heap H locs) (hl : lv_has ls 6 [(0, .ref (ad 360)), (1, .int x1), (2, .int x2), (3, .int x3), (4, .ref (ad 379))]) (hf : fL_both x1 x2 x3 S O = some res) : W p l e (headSpec wsL_both rmL_both).room s m args below meth c H locs 0 0 (vx_MQ below (va_Qi (fun a (u : Int64 × teS) => a = res.1 ∧ u = res.2) (fun u t => teR D cy ad ba u.1 u.2 t.heap) (teA ba)) (vx_X (fun _ : Unit => False) (fun _ _ _ => True) (teA ba)) args s 4 24 (teA ba)) (F0 m 0 ls []) := by
  have hx := X.1
  have hb := X.2.1
  have hown := X.2.2.2.2.1
  unfold fL_both at hf
  refine lv_aload hx hb dL_both_0 (lv_at hl 4 rfl) ?_
  refine lv_iconst (v := (0 : Int32)) hx hb dL_both_2 (by decide) ?_
  refine lv_aload_n hx hb dL_both_3 rfl (lv_at hl 0 rfl) ?_
  refine lv_iload_n hx hb dL_both_4 rfl (lv_at hl 1 rfl) ?_
  refine lv_iload_n hx hb dL_both_5 rfl (lv_at hl 2 rfl) ?_
  refine lv_iload_n hx hb dL_both_6 rfl (lv_at hl 3 rfl) ?_
  rcases bxw_some hf with ⟨e_1, hq_2, hf⟩ | ⟨r_3, S1, hq_2, hf⟩
  · by_cases c_4 : e_1 = 3
    · subst c_4
      replace hf := ite_t rfl hf
      refine kVql (id := 360) (As := [.int x1, .int x2, .int x3]) (rest := [.int (0 : Int32), .ref (ad 379)]) X hR hS (zcX5_both l D cy ad ba O S x1 x2 x3 hl0 _ hq_2) (cwV 3 X.2.2.2.2.2.1 gL_both_X5_both rfl rfl rfl kdX5_both ⟨(Nat.le_of_ble_eq_true rfl), (Nat.le_of_ble_eq_true rfl)⟩) (by decide) rfl rfl rfl rfl hl.1 (Nat.le_of_ble_eq_true rfl) ⟨(Nat.le_of_ble_eq_true rfl), (Nat.le_of_ble_eq_true rfl)⟩ dL_both_7 (fun ce q9 H locs hR hS h3 h4 h5 => ?_)
      refine te_catch (c0 := 3) X htab [] [(0, 12, 19, 13)] (0, 12, 15, 28) rfl (by decide) (by decide) (fun z hz => nomatch hz) (by decide) (by decide) wL_both_k28 h3 h4 h5 ?_
      refine lv_astore (lv' := [(5, .ref q9), (0, .ref (ad 360)), (1, .int x1), (2, .int x2), (3, .int x3), (4, .ref (ad 379))]) hx hb dL_both_15 hl (by decide) rfl (fun ls hl => ?_)
      refine lv_iconst (v := (1 : Int32)) hx hb dL_both_17 (by decide) ?_
      exact eLx X hR hS (Option.some.inj hf) (Nat.le_of_ble_eq_true rfl) (Nat.le_of_ble_eq_true rfl) dL_both_18
    replace hf := ite_f c_4 hf
    by_cases c_5 : e_1 = 1
    · subst c_5
      replace hf := ite_t rfl hf
      refine kVql (id := 360) (As := [.int x1, .int x2, .int x3]) (rest := [.int (0 : Int32), .ref (ad 379)]) X hR hS (zcX5_both l D cy ad ba O S x1 x2 x3 hl0 _ hq_2) (cwV 3 X.2.2.2.2.2.1 gL_both_X5_both rfl rfl rfl kdX5_both ⟨(Nat.le_of_ble_eq_true rfl), (Nat.le_of_ble_eq_true rfl)⟩) (by decide) rfl rfl rfl rfl hl.1 (Nat.le_of_ble_eq_true rfl) ⟨(Nat.le_of_ble_eq_true rfl), (Nat.le_of_ble_eq_true rfl)⟩ dL_both_7 (fun ce q9 H locs hR hS h3 h4 h5 => ?_)
      refine te_catch (c0 := 1) X htab [(0, 12, 15, 28)] [] (0, 12, 19, 13) rfl (by decide) (by decide) (List.forall_mem_cons.mpr ⟨⟨by decide, 3, by decide, by decide, by decide, wL_both_k28⟩, fun z hz => nomatch hz⟩) (by decide) (by decide) wL_both_k13 h3 h4 h5 ?_
      refine lv_astore (lv' := [(5, .ref q9), (0, .ref (ad 360)), (1, .int x1), (2, .int x2), (3, .int x3), (4, .ref (ad 379))]) hx hb dL_both_19 hl (by decide) rfl (fun ls hl => ?_)
      refine lv_iconst (v := (2 : Int32)) hx hb dL_both_21 (by decide) ?_
      exact eLx X hR hS (Option.some.inj hf) (Nat.le_of_ble_eq_true rfl) (Nat.le_of_ble_eq_true rfl) dL_both_22
    replace hf := ite_f c_5 hf
    exact nomatch hf
  · refine kVqr (id := 360) (As := [.int x1, .int x2, .int x3]) (rest := [.int (0 : Int32), .ref (ad 379)]) X hR hS (zcX5_both l D cy ad ba O S x1 x2 x3 hl0 _ hq_2) (cwV 3 X.2.2.2.2.2.1 gL_both_X5_both rfl rfl rfl kdX5_both ⟨(Nat.le_of_ble_eq_true rfl), (Nat.le_of_ble_eq_true rfl)⟩) (by decide) rfl rfl rfl rfl hl.1 (Nat.le_of_ble_eq_true rfl) ⟨(Nat.le_of_ble_eq_true rfl), (Nat.le_of_ble_eq_true rfl)⟩ dL_both_7 (fun H locs hR hS => ?_)
    refine lv_i2l hx hb dL_both_10 rfl ?_
    refine te_last X hR hS dL_both_11 (fun H locs hR hS => ?_)
    refine lv_goto (tgt := 23) hx hb dL_both_12 (by decide) ?_
    refine lv_iconst (v := (0 : Int32)) hx hb dL_both_23 (by decide) ?_
    exact eLx X hR hS (Option.some.inj hf) (Nat.le_of_ble_eq_true rfl) (Nat.le_of_ble_eq_true rfl) dL_both_24
theorem zcL_both (l : Launch) (D : va_G) (cy : Nat → ClassId) (ad : Nat → Nat) (ba : Nat) (O : Int64) (S : teS) (x1 : Int32) (x2 : Int32) (x3 : Int32) (hl0 : l.stackTraces = false) (res : (Int32 × (Int64 × teS))) (hf : fL_both x1 x2 x3 S O = some res) : lI l yL_both wsL_both rmL_both 4 24 D cy ad ba O S [.ref (ad 360), .int x1, .int x2, .int x3, .ref (ad 379)] res :=
  te_ofh (hh := [(0, 12, 15, 28), (0, 12, 19, 13)]) (by decide) rfl (Nat.le_of_ble_eq_true rfl) (fun p e s m below meth c ls X htab hR hS hl => bL_both_0 (S := S) (x1 := x1) (x2 := x2) (x3 := x3) X htab hl0 _ _ _ hR hS hl hf)
abbrev rmL_join : Room := { frames := 9, cells := 4, slots := 24, locals := 155 }
theorem kdL_join : yL_join.cls = RL ∧ yL_join.cls ≠ "java/lang/invoke/MethodHandle" ∧ yL_join.cls ≠ "java/lang/invoke/VarHandle" ∧ (parseMethodDescriptor yL_join.desc).map (fun d => d.parameters.length) = some 5 := by decide +kernel
theorem wL_join_k13 : Cond.classLink RL 13 "java/lang/IllegalArgumentException" ∈ wsL_join := by decide +kernel
theorem wL_join_k15 : Cond.classLink RL 15 "java/lang/IllegalStateException" ∈ wsL_join := by decide +kernel
set_option maxRecDepth 100000 in
set_option maxHeartbeats 4000000 in
theorem bL_join_0 {p : Program} {l : Launch} {e : Env} {s : State} {m : MethodId} {args : Array Value} {below : List Frame} {meth : Method} {c : Code} {D : va_G} {cy : Nat → ClassId} {ad : Nat → Nat} {ba : Nat} {O : Int64} {S : teS}  {x1 : Int32} {x2 : Int32} {x3 : Int32} {res : (Int32 × (Int64 × teS))} (X : teC wsL_join RL cL_join 6 (some .int) D cy ba p s m args meth c) (htab : c.exceptionTable.toList = tableOf [(0, 12, 15, 13), (0, 12, 19, 15)]) (hl0 : l.stackTraces = false) (H : Heap) (locs : List Loc) (ls : Array Slot) (hR : teR D cy ad ba O S H) (hS : va_S (teA ba) s.heap H locs) (hl : lv_has ls 6 [(0, .ref (ad 360)), (1, .int x1), (2, .int x2), (3, .int x3), (4, .ref (ad 379))]) (hf : fL_join x1 x2 x3 S O = some res) : W p l e (headSpec wsL_join rmL_join).room s m args below meth c H locs 0 0 (vx_MQ below (va_Qi (fun a (u : Int64 × teS) => a = res.1 ∧ u = res.2) (fun u t => teR D cy ad ba u.1 u.2 t.heap) (teA ba)) (vx_X (fun _ : Unit => False) (fun _ _ _ => True) (teA ba)) args s 4 24 (teA ba)) (F0 m 0 ls []) := by
  have hx := X.1
  have hb := X.2.1
  have hown := X.2.2.2.2.1
  unfold fL_join at hf
  refine lv_aload hx hb dL_join_0 (lv_at hl 4 rfl) ?_
  refine lv_iconst (v := (0 : Int32)) hx hb dL_join_2 (by decide) ?_
  refine lv_aload_n hx hb dL_join_3 rfl (lv_at hl 0 rfl) ?_
  refine lv_iload_n hx hb dL_join_4 rfl (lv_at hl 1 rfl) ?_
  refine lv_iload_n hx hb dL_join_5 rfl (lv_at hl 2 rfl) ?_
  refine lv_iload_n hx hb dL_join_6 rfl (lv_at hl 3 rfl) ?_
  rcases bxw_some hf with ⟨e_1, hq_2, hf⟩ | ⟨r_3, S1, hq_2, hf⟩
  · by_cases c_4 : e_1 = 1
    · subst c_4
      replace hf := ite_t rfl hf
      refine kVql (id := 360) (As := [.int x1, .int x2, .int x3]) (rest := [.int (0 : Int32), .ref (ad 379)]) X hR hS (zcX5_join l D cy ad ba O S x1 x2 x3 hl0 _ hq_2) (cwV 3 X.2.2.2.2.2.1 gL_join_X5_join rfl rfl rfl kdX5_join ⟨(Nat.le_of_ble_eq_true rfl), (Nat.le_of_ble_eq_true rfl)⟩) (by decide) rfl rfl rfl rfl hl.1 (Nat.le_of_ble_eq_true rfl) ⟨(Nat.le_of_ble_eq_true rfl), (Nat.le_of_ble_eq_true rfl)⟩ dL_join_7 (fun ce q9 H locs hR hS h3 h4 h5 => ?_)
      refine te_catch (c0 := 1) X htab [] [(0, 12, 19, 15)] (0, 12, 15, 13) rfl (by decide) (by decide) (fun z hz => nomatch hz) (by decide) (by decide) wL_join_k13 h3 h4 h5 ?_
      refine lv_astore (lv' := [(5, .ref q9), (0, .ref (ad 360)), (1, .int x1), (2, .int x2), (3, .int x3), (4, .ref (ad 379))]) hx hb dL_join_15 hl (by decide) rfl (fun ls hl => ?_)
      refine lv_iconst (v := (1 : Int32)) hx hb dL_join_17 (by decide) ?_
      exact eLx X hR hS (Option.some.inj hf) (Nat.le_of_ble_eq_true rfl) (Nat.le_of_ble_eq_true rfl) dL_join_18
    replace hf := ite_f c_4 hf
    by_cases c_5 : e_1 = 2
    · subst c_5
      replace hf := ite_t rfl hf
      refine kVql (id := 360) (As := [.int x1, .int x2, .int x3]) (rest := [.int (0 : Int32), .ref (ad 379)]) X hR hS (zcX5_join l D cy ad ba O S x1 x2 x3 hl0 _ hq_2) (cwV 3 X.2.2.2.2.2.1 gL_join_X5_join rfl rfl rfl kdX5_join ⟨(Nat.le_of_ble_eq_true rfl), (Nat.le_of_ble_eq_true rfl)⟩) (by decide) rfl rfl rfl rfl hl.1 (Nat.le_of_ble_eq_true rfl) ⟨(Nat.le_of_ble_eq_true rfl), (Nat.le_of_ble_eq_true rfl)⟩ dL_join_7 (fun ce q9 H locs hR hS h3 h4 h5 => ?_)
      refine te_catch (c0 := 2) X htab [(0, 12, 15, 13)] [] (0, 12, 19, 15) rfl (by decide) (by decide) (List.forall_mem_cons.mpr ⟨⟨by decide, 1, by decide, by decide, by decide, wL_join_k13⟩, fun z hz => nomatch hz⟩) (by decide) (by decide) wL_join_k15 h3 h4 h5 ?_
      refine lv_astore (lv' := [(5, .ref q9), (0, .ref (ad 360)), (1, .int x1), (2, .int x2), (3, .int x3), (4, .ref (ad 379))]) hx hb dL_join_19 hl (by decide) rfl (fun ls hl => ?_)
      refine lv_iconst (v := (2 : Int32)) hx hb dL_join_21 (by decide) ?_
      exact eLx X hR hS (Option.some.inj hf) (Nat.le_of_ble_eq_true rfl) (Nat.le_of_ble_eq_true rfl) dL_join_22
    replace hf := ite_f c_5 hf
    exact nomatch hf
  · refine kVqr (id := 360) (As := [.int x1, .int x2, .int x3]) (rest := [.int (0 : Int32), .ref (ad 379)]) X hR hS (zcX5_join l D cy ad ba O S x1 x2 x3 hl0 _ hq_2) (cwV 3 X.2.2.2.2.2.1 gL_join_X5_join rfl rfl rfl kdX5_join ⟨(Nat.le_of_ble_eq_true rfl), (Nat.le_of_ble_eq_true rfl)⟩) (by decide) rfl rfl rfl rfl hl.1 (Nat.le_of_ble_eq_true rfl) ⟨(Nat.le_of_ble_eq_true rfl), (Nat.le_of_ble_eq_true rfl)⟩ dL_join_7 (fun H locs hR hS => ?_)
    refine lv_i2l hx hb dL_join_10 rfl ?_
    refine te_last X hR hS dL_join_11 (fun H locs hR hS => ?_)
    refine lv_goto (tgt := 23) hx hb dL_join_12 (by decide) ?_
    refine lv_iconst (v := (0 : Int32)) hx hb dL_join_23 (by decide) ?_
    exact eLx X hR hS (Option.some.inj hf) (Nat.le_of_ble_eq_true rfl) (Nat.le_of_ble_eq_true rfl) dL_join_24
theorem zcL_join (l : Launch) (D : va_G) (cy : Nat → ClassId) (ad : Nat → Nat) (ba : Nat) (O : Int64) (S : teS) (x1 : Int32) (x2 : Int32) (x3 : Int32) (hl0 : l.stackTraces = false) (res : (Int32 × (Int64 × teS))) (hf : fL_join x1 x2 x3 S O = some res) : lI l yL_join wsL_join rmL_join 4 24 D cy ad ba O S [.ref (ad 360), .int x1, .int x2, .int x3, .ref (ad 379)] res :=
  te_ofh (hh := [(0, 12, 15, 13), (0, 12, 19, 15)]) (by decide) rfl (Nat.le_of_ble_eq_true rfl) (fun p e s m below meth c ls X htab hR hS hl => bL_join_0 (S := S) (x1 := x1) (x2 := x2) (x3 := x3) X htab hl0 _ _ _ hR hS hl hf)
abbrev rmL_leave : Room := { frames := 8, cells := 1, slots := 6, locals := 146 }
theorem kdL_leave : yL_leave.cls = RL ∧ yL_leave.cls ≠ "java/lang/invoke/MethodHandle" ∧ yL_leave.cls ≠ "java/lang/invoke/VarHandle" ∧ (parseMethodDescriptor yL_leave.desc).map (fun d => d.parameters.length) = some 3 := by decide +kernel
theorem wL_leave_k28 : Cond.classLink RL 28 "java/lang/IndexOutOfBoundsException" ∈ wsL_leave := by decide +kernel
set_option maxRecDepth 100000 in
set_option maxHeartbeats 4000000 in
theorem bL_leave_0 {p : Program} {l : Launch} {e : Env} {s : State} {m : MethodId} {args : Array Value} {below : List Frame} {meth : Method} {c : Code} {D : va_G} {cy : Nat → ClassId} {ad : Nat → Nat} {ba : Nat} {O : Int64} {S : teS}  {x1 : Int32} {res : (Int32 × (Int64 × teS))} (X : teC wsL_leave RL cL_leave 4 (some .int) D cy ba p s m args meth c) (htab : c.exceptionTable.toList = tableOf [(0, 9, 12, 28)]) (hl0 : l.stackTraces = false) (H : Heap) (locs : List Loc) (ls : Array Slot) (hR : teR D cy ad ba O S H) (hS : va_S (teA ba) s.heap H locs) (hl : lv_has ls 4 [(0, .ref (ad 360)), (1, .int x1), (2, .ref (ad 379))]) (hf : fL_leave x1 S O = some res) : W p l e (headSpec wsL_leave rmL_leave).room s m args below meth c H locs 0 0 (vx_MQ below (va_Qi (fun a (u : Int64 × teS) => a = res.1 ∧ u = res.2) (fun u t => teR D cy ad ba u.1 u.2 t.heap) (teA ba)) (vx_X (fun _ : Unit => False) (fun _ _ _ => True) (teA ba)) args s 1 6 (teA ba)) (F0 m 0 ls []) := by
  have hx := X.1
  have hb := X.2.1
  have hown := X.2.2.2.2.1
  unfold fL_leave at hf
  refine lv_aload_n hx hb dL_leave_0 rfl (lv_at hl 2 rfl) ?_
  refine lv_iconst (v := (0 : Int32)) hx hb dL_leave_1 (by decide) ?_
  refine lv_aload_n hx hb dL_leave_2 rfl (lv_at hl 0 rfl) ?_
  refine lv_iload_n hx hb dL_leave_3 rfl (lv_at hl 1 rfl) ?_
  rcases bxw_some hf with ⟨e_1, hq_2, hf⟩ | ⟨r_3, S1, hq_2, hf⟩
  · by_cases c_4 : e_1 = 3
    · subst c_4
      replace hf := ite_t rfl hf
      refine kVql (id := 360) (As := [.int x1]) (rest := [.int (0 : Int32), .ref (ad 379)]) X hR hS (zcX5_leave l D cy ad ba O S x1 hl0 _ hq_2) (cwV 1 X.2.2.2.2.2.1 gL_leave_X5_leave rfl rfl rfl kdX5_leave ⟨(Nat.le_of_ble_eq_true rfl), (Nat.le_of_ble_eq_true rfl)⟩) (by decide) rfl rfl rfl rfl hl.1 (Nat.le_of_ble_eq_true rfl) ⟨(Nat.le_of_ble_eq_true rfl), (Nat.le_of_ble_eq_true rfl)⟩ dL_leave_4 (fun ce q9 H locs hR hS h3 h4 h5 => ?_)
      refine te_catch (c0 := 3) X htab [] [] (0, 9, 12, 28) rfl (by decide) (by decide) (fun z hz => nomatch hz) (by decide) (by decide) wL_leave_k28 h3 h4 h5 ?_
      refine lv_astore_n (lv' := [(3, .ref q9), (0, .ref (ad 360)), (1, .int x1), (2, .ref (ad 379))]) hx hb dL_leave_12 rfl hl (by decide) rfl (fun ls hl => ?_)
      refine lv_iconst (v := (1 : Int32)) hx hb dL_leave_13 (by decide) ?_
      exact eLx X hR hS (Option.some.inj hf) (Nat.le_of_ble_eq_true rfl) (Nat.le_of_ble_eq_true rfl) dL_leave_14
    replace hf := ite_f c_4 hf
    exact nomatch hf
  · refine kVqr (id := 360) (As := [.int x1]) (rest := [.int (0 : Int32), .ref (ad 379)]) X hR hS (zcX5_leave l D cy ad ba O S x1 hl0 _ hq_2) (cwV 1 X.2.2.2.2.2.1 gL_leave_X5_leave rfl rfl rfl kdX5_leave ⟨(Nat.le_of_ble_eq_true rfl), (Nat.le_of_ble_eq_true rfl)⟩) (by decide) rfl rfl rfl rfl hl.1 (Nat.le_of_ble_eq_true rfl) ⟨(Nat.le_of_ble_eq_true rfl), (Nat.le_of_ble_eq_true rfl)⟩ dL_leave_4 (fun H locs hR hS => ?_)
    refine lv_i2l hx hb dL_leave_7 rfl ?_
    refine te_last X hR hS dL_leave_8 (fun H locs hR hS => ?_)
    refine lv_goto (tgt := 15) hx hb dL_leave_9 (by decide) ?_
    refine lv_iconst (v := (0 : Int32)) hx hb dL_leave_15 (by decide) ?_
    exact eLx X hR hS (Option.some.inj hf) (Nat.le_of_ble_eq_true rfl) (Nat.le_of_ble_eq_true rfl) dL_leave_16
theorem zcL_leave (l : Launch) (D : va_G) (cy : Nat → ClassId) (ad : Nat → Nat) (ba : Nat) (O : Int64) (S : teS) (x1 : Int32) (hl0 : l.stackTraces = false) (res : (Int32 × (Int64 × teS))) (hf : fL_leave x1 S O = some res) : lI l yL_leave wsL_leave rmL_leave 1 6 D cy ad ba O S [.ref (ad 360), .int x1, .ref (ad 379)] res :=
  te_ofh (hh := [(0, 9, 12, 28)]) (by decide) rfl (Nat.le_of_ble_eq_true rfl) (fun p e s m below meth c ls X htab hR hS hl => bL_leave_0 (S := S) (x1 := x1) X htab hl0 _ _ _ hR hS hl hf)
abbrev rmL_want : Room := { frames := 9, cells := 2, slots := 12, locals := 155 }
theorem kdL_want : yL_want.cls = RL ∧ yL_want.cls ≠ "java/lang/invoke/MethodHandle" ∧ yL_want.cls ≠ "java/lang/invoke/VarHandle" ∧ (parseMethodDescriptor yL_want.desc).map (fun d => d.parameters.length) = some 4 := by decide +kernel
theorem wL_want_k28 : Cond.classLink RL 28 "java/lang/IndexOutOfBoundsException" ∈ wsL_want := by decide +kernel
theorem wL_want_k13 : Cond.classLink RL 13 "java/lang/IllegalArgumentException" ∈ wsL_want := by decide +kernel
set_option maxRecDepth 100000 in
set_option maxHeartbeats 4000000 in
theorem bL_want_0 {p : Program} {l : Launch} {e : Env} {s : State} {m : MethodId} {args : Array Value} {below : List Frame} {meth : Method} {c : Code} {D : va_G} {cy : Nat → ClassId} {ad : Nat → Nat} {ba : Nat} {O : Int64} {S : teS}  {x1 : Int32} {x2 : Int32} {res : (Int32 × (Int64 × teS))} (X : teC wsL_want RL cL_want 5 (some .int) D cy ba p s m args meth c) (htab : c.exceptionTable.toList = tableOf [(0, 10, 13, 28), (0, 10, 17, 13)]) (hl0 : l.stackTraces = false) (H : Heap) (locs : List Loc) (ls : Array Slot) (hR : teR D cy ad ba O S H) (hS : va_S (teA ba) s.heap H locs) (hl : lv_has ls 5 [(0, .ref (ad 360)), (1, .int x1), (2, .int x2), (3, .ref (ad 379))]) (hf : fL_want x1 x2 S O = some res) : W p l e (headSpec wsL_want rmL_want).room s m args below meth c H locs 0 0 (vx_MQ below (va_Qi (fun a (u : Int64 × teS) => a = res.1 ∧ u = res.2) (fun u t => teR D cy ad ba u.1 u.2 t.heap) (teA ba)) (vx_X (fun _ : Unit => False) (fun _ _ _ => True) (teA ba)) args s 2 12 (teA ba)) (F0 m 0 ls []) := by
  have hx := X.1
  have hb := X.2.1
  have hown := X.2.2.2.2.1
  unfold fL_want at hf
  refine lv_aload_n hx hb dL_want_0 rfl (lv_at hl 3 rfl) ?_
  refine lv_iconst (v := (0 : Int32)) hx hb dL_want_1 (by decide) ?_
  refine lv_aload_n hx hb dL_want_2 rfl (lv_at hl 0 rfl) ?_
  refine lv_iload_n hx hb dL_want_3 rfl (lv_at hl 1 rfl) ?_
  refine lv_iload_n hx hb dL_want_4 rfl (lv_at hl 2 rfl) ?_
  rcases bxw_some hf with ⟨e_1, hq_2, hf⟩ | ⟨r_3, S1, hq_2, hf⟩
  · by_cases c_4 : e_1 = 3
    · subst c_4
      replace hf := ite_t rfl hf
      refine kVql (id := 360) (As := [.int x1, .int x2]) (rest := [.int (0 : Int32), .ref (ad 379)]) X hR hS (zcX5_want l D cy ad ba O S x1 x2 hl0 _ hq_2) (cwV 2 X.2.2.2.2.2.1 gL_want_X5_want rfl rfl rfl kdX5_want ⟨(Nat.le_of_ble_eq_true rfl), (Nat.le_of_ble_eq_true rfl)⟩) (by decide) rfl rfl rfl rfl hl.1 (Nat.le_of_ble_eq_true rfl) ⟨(Nat.le_of_ble_eq_true rfl), (Nat.le_of_ble_eq_true rfl)⟩ dL_want_5 (fun ce q9 H locs hR hS h3 h4 h5 => ?_)
      refine te_catch (c0 := 3) X htab [] [(0, 10, 17, 13)] (0, 10, 13, 28) rfl (by decide) (by decide) (fun z hz => nomatch hz) (by decide) (by decide) wL_want_k28 h3 h4 h5 ?_
      refine lv_astore (lv' := [(4, .ref q9), (0, .ref (ad 360)), (1, .int x1), (2, .int x2), (3, .ref (ad 379))]) hx hb dL_want_13 hl (by decide) rfl (fun ls hl => ?_)
      refine lv_iconst (v := (1 : Int32)) hx hb dL_want_15 (by decide) ?_
      exact eLx X hR hS (Option.some.inj hf) (Nat.le_of_ble_eq_true rfl) (Nat.le_of_ble_eq_true rfl) dL_want_16
    replace hf := ite_f c_4 hf
    by_cases c_5 : e_1 = 1
    · subst c_5
      replace hf := ite_t rfl hf
      refine kVql (id := 360) (As := [.int x1, .int x2]) (rest := [.int (0 : Int32), .ref (ad 379)]) X hR hS (zcX5_want l D cy ad ba O S x1 x2 hl0 _ hq_2) (cwV 2 X.2.2.2.2.2.1 gL_want_X5_want rfl rfl rfl kdX5_want ⟨(Nat.le_of_ble_eq_true rfl), (Nat.le_of_ble_eq_true rfl)⟩) (by decide) rfl rfl rfl rfl hl.1 (Nat.le_of_ble_eq_true rfl) ⟨(Nat.le_of_ble_eq_true rfl), (Nat.le_of_ble_eq_true rfl)⟩ dL_want_5 (fun ce q9 H locs hR hS h3 h4 h5 => ?_)
      refine te_catch (c0 := 1) X htab [(0, 10, 13, 28)] [] (0, 10, 17, 13) rfl (by decide) (by decide) (List.forall_mem_cons.mpr ⟨⟨by decide, 3, by decide, by decide, by decide, wL_want_k28⟩, fun z hz => nomatch hz⟩) (by decide) (by decide) wL_want_k13 h3 h4 h5 ?_
      refine lv_astore (lv' := [(4, .ref q9), (0, .ref (ad 360)), (1, .int x1), (2, .int x2), (3, .ref (ad 379))]) hx hb dL_want_17 hl (by decide) rfl (fun ls hl => ?_)
      refine lv_iconst (v := (2 : Int32)) hx hb dL_want_19 (by decide) ?_
      exact eLx X hR hS (Option.some.inj hf) (Nat.le_of_ble_eq_true rfl) (Nat.le_of_ble_eq_true rfl) dL_want_20
    replace hf := ite_f c_5 hf
    exact nomatch hf
  · refine kVqr (id := 360) (As := [.int x1, .int x2]) (rest := [.int (0 : Int32), .ref (ad 379)]) X hR hS (zcX5_want l D cy ad ba O S x1 x2 hl0 _ hq_2) (cwV 2 X.2.2.2.2.2.1 gL_want_X5_want rfl rfl rfl kdX5_want ⟨(Nat.le_of_ble_eq_true rfl), (Nat.le_of_ble_eq_true rfl)⟩) (by decide) rfl rfl rfl rfl hl.1 (Nat.le_of_ble_eq_true rfl) ⟨(Nat.le_of_ble_eq_true rfl), (Nat.le_of_ble_eq_true rfl)⟩ dL_want_5 (fun H locs hR hS => ?_)
    refine lv_i2l hx hb dL_want_8 rfl ?_
    refine te_last X hR hS dL_want_9 (fun H locs hR hS => ?_)
    refine lv_goto (tgt := 21) hx hb dL_want_10 (by decide) ?_
    refine lv_iconst (v := (0 : Int32)) hx hb dL_want_21 (by decide) ?_
    exact eLx X hR hS (Option.some.inj hf) (Nat.le_of_ble_eq_true rfl) (Nat.le_of_ble_eq_true rfl) dL_want_22
theorem zcL_want (l : Launch) (D : va_G) (cy : Nat → ClassId) (ad : Nat → Nat) (ba : Nat) (O : Int64) (S : teS) (x1 : Int32) (x2 : Int32) (hl0 : l.stackTraces = false) (res : (Int32 × (Int64 × teS))) (hf : fL_want x1 x2 S O = some res) : lI l yL_want wsL_want rmL_want 2 12 D cy ad ba O S [.ref (ad 360), .int x1, .int x2, .ref (ad 379)] res :=
  te_ofh (hh := [(0, 10, 13, 28), (0, 10, 17, 13)]) (by decide) rfl (Nat.le_of_ble_eq_true rfl) (fun p e s m below meth c ls X htab hR hS hl => bL_want_0 (S := S) (x1 := x1) (x2 := x2) X htab hl0 _ _ _ hR hS hl hf)
abbrev rmL_test : Room := { frames := 9, cells := 3, slots := 18, locals := 156 }
theorem kdL_test : yL_test.cls = RL ∧ yL_test.cls ≠ "java/lang/invoke/MethodHandle" ∧ yL_test.cls ≠ "java/lang/invoke/VarHandle" ∧ (parseMethodDescriptor yL_test.desc).map (fun d => d.parameters.length) = some 5 := by decide +kernel
theorem wL_test_k28 : Cond.classLink RL 28 "java/lang/IndexOutOfBoundsException" ∈ wsL_test := by decide +kernel
theorem wL_test_k13 : Cond.classLink RL 13 "java/lang/IllegalArgumentException" ∈ wsL_test := by decide +kernel
set_option maxRecDepth 100000 in
set_option maxHeartbeats 4000000 in
theorem bL_test_0 {p : Program} {l : Launch} {e : Env} {s : State} {m : MethodId} {args : Array Value} {below : List Frame} {meth : Method} {c : Code} {D : va_G} {cy : Nat → ClassId} {ad : Nat → Nat} {ba : Nat} {O : Int64} {S : teS}  {x1 : Int32} {x2 : Int32} {x3 : Int32} {res : (Int32 × (Int64 × teS))} (X : teC wsL_test RL cL_test 6 (some .int) D cy ba p s m args meth c) (htab : c.exceptionTable.toList = tableOf [(0, 12, 15, 28), (0, 12, 19, 13)]) (hl0 : l.stackTraces = false) (H : Heap) (locs : List Loc) (ls : Array Slot) (hR : teR D cy ad ba O S H) (hS : va_S (teA ba) s.heap H locs) (hl : lv_has ls 6 [(0, .ref (ad 360)), (1, .int x1), (2, .int x2), (3, .int x3), (4, .ref (ad 379))]) (hf : fL_test x1 x2 x3 S O = some res) : W p l e (headSpec wsL_test rmL_test).room s m args below meth c H locs 0 0 (vx_MQ below (va_Qi (fun a (u : Int64 × teS) => a = res.1 ∧ u = res.2) (fun u t => teR D cy ad ba u.1 u.2 t.heap) (teA ba)) (vx_X (fun _ : Unit => False) (fun _ _ _ => True) (teA ba)) args s 3 18 (teA ba)) (F0 m 0 ls []) := by
  have hx := X.1
  have hb := X.2.1
  have hown := X.2.2.2.2.1
  unfold fL_test at hf
  refine lv_aload hx hb dL_test_0 (lv_at hl 4 rfl) ?_
  refine lv_iconst (v := (0 : Int32)) hx hb dL_test_2 (by decide) ?_
  refine lv_aload_n hx hb dL_test_3 rfl (lv_at hl 0 rfl) ?_
  refine lv_iload_n hx hb dL_test_4 rfl (lv_at hl 1 rfl) ?_
  refine lv_iload_n hx hb dL_test_5 rfl (lv_at hl 2 rfl) ?_
  refine lv_iload_n hx hb dL_test_6 rfl (lv_at hl 3 rfl) ?_
  rcases bxw_some hf with ⟨e_1, hq_2, hf⟩ | ⟨r_3, S1, hq_2, hf⟩
  · by_cases c_4 : e_1 = 3
    · subst c_4
      replace hf := ite_t rfl hf
      refine kVql (id := 360) (As := [.int x1, .int x2, .int x3]) (rest := [.int (0 : Int32), .ref (ad 379)]) X hR hS (zcX5_test l D cy ad ba O S x1 x2 x3 hl0 _ hq_2) (cwV 3 X.2.2.2.2.2.1 gL_test_X5_test rfl rfl rfl kdX5_test ⟨(Nat.le_of_ble_eq_true rfl), (Nat.le_of_ble_eq_true rfl)⟩) (by decide) rfl rfl rfl rfl hl.1 (Nat.le_of_ble_eq_true rfl) ⟨(Nat.le_of_ble_eq_true rfl), (Nat.le_of_ble_eq_true rfl)⟩ dL_test_7 (fun ce q9 H locs hR hS h3 h4 h5 => ?_)
      refine te_catch (c0 := 3) X htab [] [(0, 12, 19, 13)] (0, 12, 15, 28) rfl (by decide) (by decide) (fun z hz => nomatch hz) (by decide) (by decide) wL_test_k28 h3 h4 h5 ?_
      refine lv_astore (lv' := [(5, .ref q9), (0, .ref (ad 360)), (1, .int x1), (2, .int x2), (3, .int x3), (4, .ref (ad 379))]) hx hb dL_test_15 hl (by decide) rfl (fun ls hl => ?_)
      refine lv_iconst (v := (1 : Int32)) hx hb dL_test_17 (by decide) ?_
      exact eLx X hR hS (Option.some.inj hf) (Nat.le_of_ble_eq_true rfl) (Nat.le_of_ble_eq_true rfl) dL_test_18
    replace hf := ite_f c_4 hf
    by_cases c_5 : e_1 = 1
    · subst c_5
      replace hf := ite_t rfl hf
      refine kVql (id := 360) (As := [.int x1, .int x2, .int x3]) (rest := [.int (0 : Int32), .ref (ad 379)]) X hR hS (zcX5_test l D cy ad ba O S x1 x2 x3 hl0 _ hq_2) (cwV 3 X.2.2.2.2.2.1 gL_test_X5_test rfl rfl rfl kdX5_test ⟨(Nat.le_of_ble_eq_true rfl), (Nat.le_of_ble_eq_true rfl)⟩) (by decide) rfl rfl rfl rfl hl.1 (Nat.le_of_ble_eq_true rfl) ⟨(Nat.le_of_ble_eq_true rfl), (Nat.le_of_ble_eq_true rfl)⟩ dL_test_7 (fun ce q9 H locs hR hS h3 h4 h5 => ?_)
      refine te_catch (c0 := 1) X htab [(0, 12, 15, 28)] [] (0, 12, 19, 13) rfl (by decide) (by decide) (List.forall_mem_cons.mpr ⟨⟨by decide, 3, by decide, by decide, by decide, wL_test_k28⟩, fun z hz => nomatch hz⟩) (by decide) (by decide) wL_test_k13 h3 h4 h5 ?_
      refine lv_astore (lv' := [(5, .ref q9), (0, .ref (ad 360)), (1, .int x1), (2, .int x2), (3, .int x3), (4, .ref (ad 379))]) hx hb dL_test_19 hl (by decide) rfl (fun ls hl => ?_)
      refine lv_iconst (v := (2 : Int32)) hx hb dL_test_21 (by decide) ?_
      exact eLx X hR hS (Option.some.inj hf) (Nat.le_of_ble_eq_true rfl) (Nat.le_of_ble_eq_true rfl) dL_test_22
    replace hf := ite_f c_5 hf
    exact nomatch hf
  · refine kVqr (id := 360) (As := [.int x1, .int x2, .int x3]) (rest := [.int (0 : Int32), .ref (ad 379)]) X hR hS (zcX5_test l D cy ad ba O S x1 x2 x3 hl0 _ hq_2) (cwV 3 X.2.2.2.2.2.1 gL_test_X5_test rfl rfl rfl kdX5_test ⟨(Nat.le_of_ble_eq_true rfl), (Nat.le_of_ble_eq_true rfl)⟩) (by decide) rfl rfl rfl rfl hl.1 (Nat.le_of_ble_eq_true rfl) ⟨(Nat.le_of_ble_eq_true rfl), (Nat.le_of_ble_eq_true rfl)⟩ dL_test_7 (fun H locs hR hS => ?_)
    refine lv_i2l hx hb dL_test_10 rfl ?_
    refine te_last X hR hS dL_test_11 (fun H locs hR hS => ?_)
    refine lv_goto (tgt := 23) hx hb dL_test_12 (by decide) ?_
    refine lv_iconst (v := (0 : Int32)) hx hb dL_test_23 (by decide) ?_
    exact eLx X hR hS (Option.some.inj hf) (Nat.le_of_ble_eq_true rfl) (Nat.le_of_ble_eq_true rfl) dL_test_24
theorem zcL_test (l : Launch) (D : va_G) (cy : Nat → ClassId) (ad : Nat → Nat) (ba : Nat) (O : Int64) (S : teS) (x1 : Int32) (x2 : Int32) (x3 : Int32) (hl0 : l.stackTraces = false) (res : (Int32 × (Int64 × teS))) (hf : fL_test x1 x2 x3 S O = some res) : lI l yL_test wsL_test rmL_test 3 18 D cy ad ba O S [.ref (ad 360), .int x1, .int x2, .int x3, .ref (ad 379)] res :=
  te_ofh (hh := [(0, 12, 15, 28), (0, 12, 19, 13)]) (by decide) rfl (Nat.le_of_ble_eq_true rfl) (fun p e s m below meth c ls X htab hR hS hl => bL_test_0 (S := S) (x1 := x1) (x2 := x2) (x3 := x3) X htab hl0 _ _ _ hR hS hl hf)
abbrev rmL_pair : Room := { frames := 9, cells := 4, slots := 24, locals := 155 }
theorem kdL_pair : yL_pair.cls = RL ∧ yL_pair.cls ≠ "java/lang/invoke/MethodHandle" ∧ yL_pair.cls ≠ "java/lang/invoke/VarHandle" ∧ (parseMethodDescriptor yL_pair.desc).map (fun d => d.parameters.length) = some 4 := by decide +kernel
theorem wL_pair_k28 : Cond.classLink RL 28 "java/lang/IndexOutOfBoundsException" ∈ wsL_pair := by decide +kernel
theorem wL_pair_k13 : Cond.classLink RL 13 "java/lang/IllegalArgumentException" ∈ wsL_pair := by decide +kernel
theorem wL_pair_k15 : Cond.classLink RL 15 "java/lang/IllegalStateException" ∈ wsL_pair := by decide +kernel
set_option maxRecDepth 100000 in
set_option maxHeartbeats 4000000 in
theorem bL_pair_0 {p : Program} {l : Launch} {e : Env} {s : State} {m : MethodId} {args : Array Value} {below : List Frame} {meth : Method} {c : Code} {D : va_G} {cy : Nat → ClassId} {ad : Nat → Nat} {ba : Nat} {O : Int64} {S : teS}  {x1 : Int32} {x2 : Int32} {res : (Int32 × (Int64 × teS))} (X : teC wsL_pair RL cL_pair 5 (some .int) D cy ba p s m args meth c) (htab : c.exceptionTable.toList = tableOf [(0, 10, 13, 28), (0, 10, 17, 13), (0, 10, 21, 15)]) (hl0 : l.stackTraces = false) (H : Heap) (locs : List Loc) (ls : Array Slot) (hR : teR D cy ad ba O S H) (hS : va_S (teA ba) s.heap H locs) (hl : lv_has ls 5 [(0, .ref (ad 360)), (1, .int x1), (2, .int x2), (3, .ref (ad 379))]) (hf : fL_pair x1 x2 S O = some res) : W p l e (headSpec wsL_pair rmL_pair).room s m args below meth c H locs 0 0 (vx_MQ below (va_Qi (fun a (u : Int64 × teS) => a = res.1 ∧ u = res.2) (fun u t => teR D cy ad ba u.1 u.2 t.heap) (teA ba)) (vx_X (fun _ : Unit => False) (fun _ _ _ => True) (teA ba)) args s 4 24 (teA ba)) (F0 m 0 ls []) := by
  have hx := X.1
  have hb := X.2.1
  have hown := X.2.2.2.2.1
  unfold fL_pair at hf
  refine lv_aload_n hx hb dL_pair_0 rfl (lv_at hl 3 rfl) ?_
  refine lv_iconst (v := (0 : Int32)) hx hb dL_pair_1 (by decide) ?_
  refine lv_aload_n hx hb dL_pair_2 rfl (lv_at hl 0 rfl) ?_
  refine lv_iload_n hx hb dL_pair_3 rfl (lv_at hl 1 rfl) ?_
  refine lv_iload_n hx hb dL_pair_4 rfl (lv_at hl 2 rfl) ?_
  rcases bxw_some hf with ⟨e_1, hq_2, hf⟩ | ⟨r_3, S1, hq_2, hf⟩
  · by_cases c_4 : e_1 = 3
    · subst c_4
      replace hf := ite_t rfl hf
      refine kVql (id := 360) (As := [.int x1, .int x2]) (rest := [.int (0 : Int32), .ref (ad 379)]) X hR hS (zcX5_pair l D cy ad ba O S x1 x2 hl0 _ hq_2) (cwV 2 X.2.2.2.2.2.1 gL_pair_X5_pair rfl rfl rfl kdX5_pair ⟨(Nat.le_of_ble_eq_true rfl), (Nat.le_of_ble_eq_true rfl)⟩) (by decide) rfl rfl rfl rfl hl.1 (Nat.le_of_ble_eq_true rfl) ⟨(Nat.le_of_ble_eq_true rfl), (Nat.le_of_ble_eq_true rfl)⟩ dL_pair_5 (fun ce q9 H locs hR hS h3 h4 h5 => ?_)
      refine te_catch (c0 := 3) X htab [] [(0, 10, 17, 13), (0, 10, 21, 15)] (0, 10, 13, 28) rfl (by decide) (by decide) (fun z hz => nomatch hz) (by decide) (by decide) wL_pair_k28 h3 h4 h5 ?_
      refine lv_astore (lv' := [(4, .ref q9), (0, .ref (ad 360)), (1, .int x1), (2, .int x2), (3, .ref (ad 379))]) hx hb dL_pair_13 hl (by decide) rfl (fun ls hl => ?_)
      refine lv_iconst (v := (1 : Int32)) hx hb dL_pair_15 (by decide) ?_
      exact eLx X hR hS (Option.some.inj hf) (Nat.le_of_ble_eq_true rfl) (Nat.le_of_ble_eq_true rfl) dL_pair_16
    replace hf := ite_f c_4 hf
    by_cases c_5 : e_1 = 1
    · subst c_5
      replace hf := ite_t rfl hf
      refine kVql (id := 360) (As := [.int x1, .int x2]) (rest := [.int (0 : Int32), .ref (ad 379)]) X hR hS (zcX5_pair l D cy ad ba O S x1 x2 hl0 _ hq_2) (cwV 2 X.2.2.2.2.2.1 gL_pair_X5_pair rfl rfl rfl kdX5_pair ⟨(Nat.le_of_ble_eq_true rfl), (Nat.le_of_ble_eq_true rfl)⟩) (by decide) rfl rfl rfl rfl hl.1 (Nat.le_of_ble_eq_true rfl) ⟨(Nat.le_of_ble_eq_true rfl), (Nat.le_of_ble_eq_true rfl)⟩ dL_pair_5 (fun ce q9 H locs hR hS h3 h4 h5 => ?_)
      refine te_catch (c0 := 1) X htab [(0, 10, 13, 28)] [(0, 10, 21, 15)] (0, 10, 17, 13) rfl (by decide) (by decide) (List.forall_mem_cons.mpr ⟨⟨by decide, 3, by decide, by decide, by decide, wL_pair_k28⟩, fun z hz => nomatch hz⟩) (by decide) (by decide) wL_pair_k13 h3 h4 h5 ?_
      refine lv_astore (lv' := [(4, .ref q9), (0, .ref (ad 360)), (1, .int x1), (2, .int x2), (3, .ref (ad 379))]) hx hb dL_pair_17 hl (by decide) rfl (fun ls hl => ?_)
      refine lv_iconst (v := (2 : Int32)) hx hb dL_pair_19 (by decide) ?_
      exact eLx X hR hS (Option.some.inj hf) (Nat.le_of_ble_eq_true rfl) (Nat.le_of_ble_eq_true rfl) dL_pair_20
    replace hf := ite_f c_5 hf
    by_cases c_6 : e_1 = 2
    · subst c_6
      replace hf := ite_t rfl hf
      refine kVql (id := 360) (As := [.int x1, .int x2]) (rest := [.int (0 : Int32), .ref (ad 379)]) X hR hS (zcX5_pair l D cy ad ba O S x1 x2 hl0 _ hq_2) (cwV 2 X.2.2.2.2.2.1 gL_pair_X5_pair rfl rfl rfl kdX5_pair ⟨(Nat.le_of_ble_eq_true rfl), (Nat.le_of_ble_eq_true rfl)⟩) (by decide) rfl rfl rfl rfl hl.1 (Nat.le_of_ble_eq_true rfl) ⟨(Nat.le_of_ble_eq_true rfl), (Nat.le_of_ble_eq_true rfl)⟩ dL_pair_5 (fun ce q9 H locs hR hS h3 h4 h5 => ?_)
      refine te_catch (c0 := 2) X htab [(0, 10, 13, 28), (0, 10, 17, 13)] [] (0, 10, 21, 15) rfl (by decide) (by decide) (List.forall_mem_cons.mpr ⟨⟨by decide, 3, by decide, by decide, by decide, wL_pair_k28⟩, List.forall_mem_cons.mpr ⟨⟨by decide, 1, by decide, by decide, by decide, wL_pair_k13⟩, fun z hz => nomatch hz⟩⟩) (by decide) (by decide) wL_pair_k15 h3 h4 h5 ?_
      refine lv_astore (lv' := [(4, .ref q9), (0, .ref (ad 360)), (1, .int x1), (2, .int x2), (3, .ref (ad 379))]) hx hb dL_pair_21 hl (by decide) rfl (fun ls hl => ?_)
      refine lv_iconst (v := (3 : Int32)) hx hb dL_pair_23 (by decide) ?_
      exact eLx X hR hS (Option.some.inj hf) (Nat.le_of_ble_eq_true rfl) (Nat.le_of_ble_eq_true rfl) dL_pair_24
    replace hf := ite_f c_6 hf
    exact nomatch hf
  · refine kVqr (id := 360) (As := [.int x1, .int x2]) (rest := [.int (0 : Int32), .ref (ad 379)]) X hR hS (zcX5_pair l D cy ad ba O S x1 x2 hl0 _ hq_2) (cwV 2 X.2.2.2.2.2.1 gL_pair_X5_pair rfl rfl rfl kdX5_pair ⟨(Nat.le_of_ble_eq_true rfl), (Nat.le_of_ble_eq_true rfl)⟩) (by decide) rfl rfl rfl rfl hl.1 (Nat.le_of_ble_eq_true rfl) ⟨(Nat.le_of_ble_eq_true rfl), (Nat.le_of_ble_eq_true rfl)⟩ dL_pair_5 (fun H locs hR hS => ?_)
    refine lv_i2l hx hb dL_pair_8 rfl ?_
    refine te_last X hR hS dL_pair_9 (fun H locs hR hS => ?_)
    refine lv_goto (tgt := 25) hx hb dL_pair_10 (by decide) ?_
    refine lv_iconst (v := (0 : Int32)) hx hb dL_pair_25 (by decide) ?_
    exact eLx X hR hS (Option.some.inj hf) (Nat.le_of_ble_eq_true rfl) (Nat.le_of_ble_eq_true rfl) dL_pair_26
theorem zcL_pair (l : Launch) (D : va_G) (cy : Nat → ClassId) (ad : Nat → Nat) (ba : Nat) (O : Int64) (S : teS) (x1 : Int32) (x2 : Int32) (hl0 : l.stackTraces = false) (res : (Int32 × (Int64 × teS))) (hf : fL_pair x1 x2 S O = some res) : lI l yL_pair wsL_pair rmL_pair 4 24 D cy ad ba O S [.ref (ad 360), .int x1, .int x2, .ref (ad 379)] res :=
  te_ofh (hh := [(0, 10, 13, 28), (0, 10, 17, 13), (0, 10, 21, 15)]) (by decide) rfl (Nat.le_of_ble_eq_true rfl) (fun p e s m below meth c ls X htab hR hS hl => bL_pair_0 (S := S) (x1 := x1) (x2 := x2) X htab hl0 _ _ _ hR hS hl hf)
abbrev rmL_part : Room := { frames := 8, cells := 2, slots := 12, locals := 146 }
theorem kdL_part : yL_part.cls = RL ∧ yL_part.cls ≠ "java/lang/invoke/MethodHandle" ∧ yL_part.cls ≠ "java/lang/invoke/VarHandle" ∧ (parseMethodDescriptor yL_part.desc).map (fun d => d.parameters.length) = some 3 := by decide +kernel
theorem wL_part_k28 : Cond.classLink RL 28 "java/lang/IndexOutOfBoundsException" ∈ wsL_part := by decide +kernel
theorem wL_part_k15 : Cond.classLink RL 15 "java/lang/IllegalStateException" ∈ wsL_part := by decide +kernel
set_option maxRecDepth 100000 in
set_option maxHeartbeats 4000000 in
theorem bL_part_0 {p : Program} {l : Launch} {e : Env} {s : State} {m : MethodId} {args : Array Value} {below : List Frame} {meth : Method} {c : Code} {D : va_G} {cy : Nat → ClassId} {ad : Nat → Nat} {ba : Nat} {O : Int64} {S : teS}  {x1 : Int32} {res : (Int32 × (Int64 × teS))} (X : teC wsL_part RL cL_part 4 (some .int) D cy ba p s m args meth c) (htab : c.exceptionTable.toList = tableOf [(0, 9, 12, 28), (0, 9, 15, 15)]) (hl0 : l.stackTraces = false) (H : Heap) (locs : List Loc) (ls : Array Slot) (hR : teR D cy ad ba O S H) (hS : va_S (teA ba) s.heap H locs) (hl : lv_has ls 4 [(0, .ref (ad 360)), (1, .int x1), (2, .ref (ad 379))]) (hf : fL_part x1 S O = some res) : W p l e (headSpec wsL_part rmL_part).room s m args below meth c H locs 0 0 (vx_MQ below (va_Qi (fun a (u : Int64 × teS) => a = res.1 ∧ u = res.2) (fun u t => teR D cy ad ba u.1 u.2 t.heap) (teA ba)) (vx_X (fun _ : Unit => False) (fun _ _ _ => True) (teA ba)) args s 2 12 (teA ba)) (F0 m 0 ls []) := by
  have hx := X.1
  have hb := X.2.1
  have hown := X.2.2.2.2.1
  unfold fL_part at hf
  refine lv_aload_n hx hb dL_part_0 rfl (lv_at hl 2 rfl) ?_
  refine lv_iconst (v := (0 : Int32)) hx hb dL_part_1 (by decide) ?_
  refine lv_aload_n hx hb dL_part_2 rfl (lv_at hl 0 rfl) ?_
  refine lv_iload_n hx hb dL_part_3 rfl (lv_at hl 1 rfl) ?_
  rcases bxw_some hf with ⟨e_1, hq_2, hf⟩ | ⟨r_3, S1, hq_2, hf⟩
  · by_cases c_4 : e_1 = 3
    · subst c_4
      replace hf := ite_t rfl hf
      refine kVql (id := 360) (As := [.int x1]) (rest := [.int (0 : Int32), .ref (ad 379)]) X hR hS (zcX5_part l D cy ad ba O S x1 hl0 _ hq_2) (cwV 1 X.2.2.2.2.2.1 gL_part_X5_part rfl rfl rfl kdX5_part ⟨(Nat.le_of_ble_eq_true rfl), (Nat.le_of_ble_eq_true rfl)⟩) (by decide) rfl rfl rfl rfl hl.1 (Nat.le_of_ble_eq_true rfl) ⟨(Nat.le_of_ble_eq_true rfl), (Nat.le_of_ble_eq_true rfl)⟩ dL_part_4 (fun ce q9 H locs hR hS h3 h4 h5 => ?_)
      refine te_catch (c0 := 3) X htab [] [(0, 9, 15, 15)] (0, 9, 12, 28) rfl (by decide) (by decide) (fun z hz => nomatch hz) (by decide) (by decide) wL_part_k28 h3 h4 h5 ?_
      refine lv_astore_n (lv' := [(3, .ref q9), (0, .ref (ad 360)), (1, .int x1), (2, .ref (ad 379))]) hx hb dL_part_12 rfl hl (by decide) rfl (fun ls hl => ?_)
      refine lv_iconst (v := (1 : Int32)) hx hb dL_part_13 (by decide) ?_
      exact eLx X hR hS (Option.some.inj hf) (Nat.le_of_ble_eq_true rfl) (Nat.le_of_ble_eq_true rfl) dL_part_14
    replace hf := ite_f c_4 hf
    by_cases c_5 : e_1 = 2
    · subst c_5
      replace hf := ite_t rfl hf
      refine kVql (id := 360) (As := [.int x1]) (rest := [.int (0 : Int32), .ref (ad 379)]) X hR hS (zcX5_part l D cy ad ba O S x1 hl0 _ hq_2) (cwV 1 X.2.2.2.2.2.1 gL_part_X5_part rfl rfl rfl kdX5_part ⟨(Nat.le_of_ble_eq_true rfl), (Nat.le_of_ble_eq_true rfl)⟩) (by decide) rfl rfl rfl rfl hl.1 (Nat.le_of_ble_eq_true rfl) ⟨(Nat.le_of_ble_eq_true rfl), (Nat.le_of_ble_eq_true rfl)⟩ dL_part_4 (fun ce q9 H locs hR hS h3 h4 h5 => ?_)
      refine te_catch (c0 := 2) X htab [(0, 9, 12, 28)] [] (0, 9, 15, 15) rfl (by decide) (by decide) (List.forall_mem_cons.mpr ⟨⟨by decide, 3, by decide, by decide, by decide, wL_part_k28⟩, fun z hz => nomatch hz⟩) (by decide) (by decide) wL_part_k15 h3 h4 h5 ?_
      refine lv_astore_n (lv' := [(3, .ref q9), (0, .ref (ad 360)), (1, .int x1), (2, .ref (ad 379))]) hx hb dL_part_15 rfl hl (by decide) rfl (fun ls hl => ?_)
      refine lv_iconst (v := (2 : Int32)) hx hb dL_part_16 (by decide) ?_
      exact eLx X hR hS (Option.some.inj hf) (Nat.le_of_ble_eq_true rfl) (Nat.le_of_ble_eq_true rfl) dL_part_17
    replace hf := ite_f c_5 hf
    exact nomatch hf
  · refine kVqr (id := 360) (As := [.int x1]) (rest := [.int (0 : Int32), .ref (ad 379)]) X hR hS (zcX5_part l D cy ad ba O S x1 hl0 _ hq_2) (cwV 1 X.2.2.2.2.2.1 gL_part_X5_part rfl rfl rfl kdX5_part ⟨(Nat.le_of_ble_eq_true rfl), (Nat.le_of_ble_eq_true rfl)⟩) (by decide) rfl rfl rfl rfl hl.1 (Nat.le_of_ble_eq_true rfl) ⟨(Nat.le_of_ble_eq_true rfl), (Nat.le_of_ble_eq_true rfl)⟩ dL_part_4 (fun H locs hR hS => ?_)
    refine lv_i2l hx hb dL_part_7 rfl ?_
    refine te_last X hR hS dL_part_8 (fun H locs hR hS => ?_)
    refine lv_goto (tgt := 18) hx hb dL_part_9 (by decide) ?_
    refine lv_iconst (v := (0 : Int32)) hx hb dL_part_18 (by decide) ?_
    exact eLx X hR hS (Option.some.inj hf) (Nat.le_of_ble_eq_true rfl) (Nat.le_of_ble_eq_true rfl) dL_part_19
theorem zcL_part (l : Launch) (D : va_G) (cy : Nat → ClassId) (ad : Nat → Nat) (ba : Nat) (O : Int64) (S : teS) (x1 : Int32) (hl0 : l.stackTraces = false) (res : (Int32 × (Int64 × teS))) (hf : fL_part x1 S O = some res) : lI l yL_part wsL_part rmL_part 2 12 D cy ad ba O S [.ref (ad 360), .int x1, .ref (ad 379)] res :=
  te_ofh (hh := [(0, 9, 12, 28), (0, 9, 15, 15)]) (by decide) rfl (Nat.le_of_ble_eq_true rfl) (fun p e s m below meth c ls X htab hR hS hl => bL_part_0 (S := S) (x1 := x1) X htab hl0 _ _ _ hR hS hl hf)
abbrev rmL_settle : Room := { frames := 8, cells := 1, slots := 6, locals := 156 }
theorem kdL_settle : yL_settle.cls = RL ∧ yL_settle.cls ≠ "java/lang/invoke/MethodHandle" ∧ yL_settle.cls ≠ "java/lang/invoke/VarHandle" ∧ (parseMethodDescriptor yL_settle.desc).map (fun d => d.parameters.length) = some 3 := by decide +kernel
theorem wL_settle_k13 : Cond.classLink RL 13 "java/lang/IllegalArgumentException" ∈ wsL_settle := by decide +kernel
set_option maxRecDepth 100000 in
set_option maxHeartbeats 4000000 in
theorem bL_settle_0 {p : Program} {l : Launch} {e : Env} {s : State} {m : MethodId} {args : Array Value} {below : List Frame} {meth : Method} {c : Code} {D : va_G} {cy : Nat → ClassId} {ad : Nat → Nat} {ba : Nat} {O : Int64} {S : teS}  {x1 : Int32} {res : (Int32 × (Int64 × teS))} (X : teC wsL_settle RL cL_settle 4 (some .int) D cy ba p s m args meth c) (htab : c.exceptionTable.toList = tableOf [(0, 9, 12, 13)]) (hl0 : l.stackTraces = false) (H : Heap) (locs : List Loc) (ls : Array Slot) (hR : teR D cy ad ba O S H) (hS : va_S (teA ba) s.heap H locs) (hl : lv_has ls 4 [(0, .ref (ad 360)), (1, .int x1), (2, .ref (ad 379))]) (hf : fL_settle x1 S O = some res) : W p l e (headSpec wsL_settle rmL_settle).room s m args below meth c H locs 0 0 (vx_MQ below (va_Qi (fun a (u : Int64 × teS) => a = res.1 ∧ u = res.2) (fun u t => teR D cy ad ba u.1 u.2 t.heap) (teA ba)) (vx_X (fun _ : Unit => False) (fun _ _ _ => True) (teA ba)) args s 1 6 (teA ba)) (F0 m 0 ls []) := by
  have hx := X.1
  have hb := X.2.1
  have hown := X.2.2.2.2.1
  unfold fL_settle at hf
  refine lv_aload_n hx hb dL_settle_0 rfl (lv_at hl 2 rfl) ?_
  refine lv_iconst (v := (0 : Int32)) hx hb dL_settle_1 (by decide) ?_
  refine lv_aload_n hx hb dL_settle_2 rfl (lv_at hl 0 rfl) ?_
  refine lv_iload_n hx hb dL_settle_3 rfl (lv_at hl 1 rfl) ?_
  rcases bxw_some hf with ⟨e_1, hq_2, hf⟩ | ⟨r_3, S1, hq_2, hf⟩
  · by_cases c_4 : e_1 = 1
    · subst c_4
      replace hf := ite_t rfl hf
      refine kVql (id := 360) (As := [.int x1]) (rest := [.int (0 : Int32), .ref (ad 379)]) X hR hS (zcX5_settle l D cy ad ba O S x1 hl0 _ hq_2) (cwV 1 X.2.2.2.2.2.1 gL_settle_X5_settle rfl rfl rfl kdX5_settle ⟨(Nat.le_of_ble_eq_true rfl), (Nat.le_of_ble_eq_true rfl)⟩) (by decide) rfl rfl rfl rfl hl.1 (Nat.le_of_ble_eq_true rfl) ⟨(Nat.le_of_ble_eq_true rfl), (Nat.le_of_ble_eq_true rfl)⟩ dL_settle_4 (fun ce q9 H locs hR hS h3 h4 h5 => ?_)
      refine te_catch (c0 := 1) X htab [] [] (0, 9, 12, 13) rfl (by decide) (by decide) (fun z hz => nomatch hz) (by decide) (by decide) wL_settle_k13 h3 h4 h5 ?_
      refine lv_astore_n (lv' := [(3, .ref q9), (0, .ref (ad 360)), (1, .int x1), (2, .ref (ad 379))]) hx hb dL_settle_12 rfl hl (by decide) rfl (fun ls hl => ?_)
      refine lv_iconst (v := (1 : Int32)) hx hb dL_settle_13 (by decide) ?_
      exact eLx X hR hS (Option.some.inj hf) (Nat.le_of_ble_eq_true rfl) (Nat.le_of_ble_eq_true rfl) dL_settle_14
    replace hf := ite_f c_4 hf
    exact nomatch hf
  · refine kVqr (id := 360) (As := [.int x1]) (rest := [.int (0 : Int32), .ref (ad 379)]) X hR hS (zcX5_settle l D cy ad ba O S x1 hl0 _ hq_2) (cwV 1 X.2.2.2.2.2.1 gL_settle_X5_settle rfl rfl rfl kdX5_settle ⟨(Nat.le_of_ble_eq_true rfl), (Nat.le_of_ble_eq_true rfl)⟩) (by decide) rfl rfl rfl rfl hl.1 (Nat.le_of_ble_eq_true rfl) ⟨(Nat.le_of_ble_eq_true rfl), (Nat.le_of_ble_eq_true rfl)⟩ dL_settle_4 (fun H locs hR hS => ?_)
    refine lv_i2l hx hb dL_settle_7 rfl ?_
    refine te_last X hR hS dL_settle_8 (fun H locs hR hS => ?_)
    refine lv_goto (tgt := 15) hx hb dL_settle_9 (by decide) ?_
    refine lv_iconst (v := (0 : Int32)) hx hb dL_settle_15 (by decide) ?_
    exact eLx X hR hS (Option.some.inj hf) (Nat.le_of_ble_eq_true rfl) (Nat.le_of_ble_eq_true rfl) dL_settle_16
theorem zcL_settle (l : Launch) (D : va_G) (cy : Nat → ClassId) (ad : Nat → Nat) (ba : Nat) (O : Int64) (S : teS) (x1 : Int32) (hl0 : l.stackTraces = false) (res : (Int32 × (Int64 × teS))) (hf : fL_settle x1 S O = some res) : lI l yL_settle wsL_settle rmL_settle 1 6 D cy ad ba O S [.ref (ad 360), .int x1, .ref (ad 379)] res :=
  te_ofh (hh := [(0, 9, 12, 13)]) (by decide) rfl (Nat.le_of_ble_eq_true rfl) (fun p e s m below meth c ls X htab hR hS hl => bL_settle_0 (S := S) (x1 := x1) X htab hl0 _ _ _ hR hS hl hf)
abbrev rmL_week : Room := { frames := 8, cells := 1, slots := 6, locals := 145 }
theorem kdL_week : yL_week.cls = RL ∧ yL_week.cls ≠ "java/lang/invoke/MethodHandle" ∧ yL_week.cls ≠ "java/lang/invoke/VarHandle" ∧ (parseMethodDescriptor yL_week.desc).map (fun d => d.parameters.length) = some 3 := by decide +kernel
theorem wL_week_k13 : Cond.classLink RL 13 "java/lang/IllegalArgumentException" ∈ wsL_week := by decide +kernel
set_option maxRecDepth 100000 in
set_option maxHeartbeats 4000000 in
theorem bL_week_0 {p : Program} {l : Launch} {e : Env} {s : State} {m : MethodId} {args : Array Value} {below : List Frame} {meth : Method} {c : Code} {D : va_G} {cy : Nat → ClassId} {ad : Nat → Nat} {ba : Nat} {O : Int64} {S : teS}  {x1 : Int32} {res : (Int32 × (Int64 × teS))} (X : teC wsL_week RL cL_week 4 (some .int) D cy ba p s m args meth c) (htab : c.exceptionTable.toList = tableOf [(0, 9, 12, 13)]) (hl0 : l.stackTraces = false) (H : Heap) (locs : List Loc) (ls : Array Slot) (hR : teR D cy ad ba O S H) (hS : va_S (teA ba) s.heap H locs) (hl : lv_has ls 4 [(0, .ref (ad 360)), (1, .int x1), (2, .ref (ad 379))]) (hf : fL_week x1 S O = some res) : W p l e (headSpec wsL_week rmL_week).room s m args below meth c H locs 0 0 (vx_MQ below (va_Qi (fun a (u : Int64 × teS) => a = res.1 ∧ u = res.2) (fun u t => teR D cy ad ba u.1 u.2 t.heap) (teA ba)) (vx_X (fun _ : Unit => False) (fun _ _ _ => True) (teA ba)) args s 1 6 (teA ba)) (F0 m 0 ls []) := by
  have hx := X.1
  have hb := X.2.1
  have hown := X.2.2.2.2.1
  unfold fL_week at hf
  refine lv_aload_n hx hb dL_week_0 rfl (lv_at hl 2 rfl) ?_
  refine lv_iconst (v := (0 : Int32)) hx hb dL_week_1 (by decide) ?_
  refine lv_aload_n hx hb dL_week_2 rfl (lv_at hl 0 rfl) ?_
  refine lv_iload_n hx hb dL_week_3 rfl (lv_at hl 1 rfl) ?_
  rcases bxw_some hf with ⟨e_1, hq_2, hf⟩ | ⟨r_3, S1, hq_2, hf⟩
  · by_cases c_4 : e_1 = 1
    · subst c_4
      replace hf := ite_t rfl hf
      refine kVql (id := 360) (As := [.int x1]) (rest := [.int (0 : Int32), .ref (ad 379)]) X hR hS (zcX5_week l D cy ad ba O S x1 hl0 _ hq_2) (cwV 1 X.2.2.2.2.2.1 gL_week_X5_week rfl rfl rfl kdX5_week ⟨(Nat.le_of_ble_eq_true rfl), (Nat.le_of_ble_eq_true rfl)⟩) (by decide) rfl rfl rfl rfl hl.1 (Nat.le_of_ble_eq_true rfl) ⟨(Nat.le_of_ble_eq_true rfl), (Nat.le_of_ble_eq_true rfl)⟩ dL_week_4 (fun ce q9 H locs hR hS h3 h4 h5 => ?_)
      refine te_catch (c0 := 1) X htab [] [] (0, 9, 12, 13) rfl (by decide) (by decide) (fun z hz => nomatch hz) (by decide) (by decide) wL_week_k13 h3 h4 h5 ?_
      refine lv_astore_n (lv' := [(3, .ref q9), (0, .ref (ad 360)), (1, .int x1), (2, .ref (ad 379))]) hx hb dL_week_12 rfl hl (by decide) rfl (fun ls hl => ?_)
      refine lv_iconst (v := (1 : Int32)) hx hb dL_week_13 (by decide) ?_
      exact eLx X hR hS (Option.some.inj hf) (Nat.le_of_ble_eq_true rfl) (Nat.le_of_ble_eq_true rfl) dL_week_14
    replace hf := ite_f c_4 hf
    exact nomatch hf
  · refine kVqr (id := 360) (As := [.int x1]) (rest := [.int (0 : Int32), .ref (ad 379)]) X hR hS (zcX5_week l D cy ad ba O S x1 hl0 _ hq_2) (cwV 1 X.2.2.2.2.2.1 gL_week_X5_week rfl rfl rfl kdX5_week ⟨(Nat.le_of_ble_eq_true rfl), (Nat.le_of_ble_eq_true rfl)⟩) (by decide) rfl rfl rfl rfl hl.1 (Nat.le_of_ble_eq_true rfl) ⟨(Nat.le_of_ble_eq_true rfl), (Nat.le_of_ble_eq_true rfl)⟩ dL_week_4 (fun H locs hR hS => ?_)
    refine lv_i2l hx hb dL_week_7 rfl ?_
    refine te_last X hR hS dL_week_8 (fun H locs hR hS => ?_)
    refine lv_goto (tgt := 15) hx hb dL_week_9 (by decide) ?_
    refine lv_iconst (v := (0 : Int32)) hx hb dL_week_15 (by decide) ?_
    exact eLx X hR hS (Option.some.inj hf) (Nat.le_of_ble_eq_true rfl) (Nat.le_of_ble_eq_true rfl) dL_week_16
theorem zcL_week (l : Launch) (D : va_G) (cy : Nat → ClassId) (ad : Nat → Nat) (ba : Nat) (O : Int64) (S : teS) (x1 : Int32) (hl0 : l.stackTraces = false) (res : (Int32 × (Int64 × teS))) (hf : fL_week x1 S O = some res) : lI l yL_week wsL_week rmL_week 1 6 D cy ad ba O S [.ref (ad 360), .int x1, .ref (ad 379)] res :=
  te_ofh (hh := [(0, 9, 12, 13)]) (by decide) rfl (Nat.le_of_ble_eq_true rfl) (fun p e s m below meth c ls X htab hR hS hl => bL_week_0 (S := S) (x1 := x1) X htab hl0 _ _ _ hR hS hl hf)
abbrev rmL_undo : Room := { frames := 7, cells := 1, slots := 6, locals := 144 }
theorem kdL_undo : yL_undo.cls = RL ∧ yL_undo.cls ≠ "java/lang/invoke/MethodHandle" ∧ yL_undo.cls ≠ "java/lang/invoke/VarHandle" ∧ (parseMethodDescriptor yL_undo.desc).map (fun d => d.parameters.length) = some 2 := by decide +kernel
theorem wL_undo_k15 : Cond.classLink RL 15 "java/lang/IllegalStateException" ∈ wsL_undo := by decide +kernel
set_option maxRecDepth 100000 in
set_option maxHeartbeats 4000000 in
theorem bL_undo_0 {p : Program} {l : Launch} {e : Env} {s : State} {m : MethodId} {args : Array Value} {below : List Frame} {meth : Method} {c : Code} {D : va_G} {cy : Nat → ClassId} {ad : Nat → Nat} {ba : Nat} {O : Int64} {S : teS}  {res : (Int32 × (Int64 × teS))} (X : teC wsL_undo RL cL_undo 3 (some .int) D cy ba p s m args meth c) (htab : c.exceptionTable.toList = tableOf [(0, 8, 11, 15)]) (hl0 : l.stackTraces = false) (H : Heap) (locs : List Loc) (ls : Array Slot) (hR : teR D cy ad ba O S H) (hS : va_S (teA ba) s.heap H locs) (hl : lv_has ls 3 [(0, .ref (ad 360)), (1, .ref (ad 379))]) (hf : fL_undo S O = some res) : W p l e (headSpec wsL_undo rmL_undo).room s m args below meth c H locs 0 0 (vx_MQ below (va_Qi (fun a (u : Int64 × teS) => a = res.1 ∧ u = res.2) (fun u t => teR D cy ad ba u.1 u.2 t.heap) (teA ba)) (vx_X (fun _ : Unit => False) (fun _ _ _ => True) (teA ba)) args s 1 6 (teA ba)) (F0 m 0 ls []) := by
  have hx := X.1
  have hb := X.2.1
  have hown := X.2.2.2.2.1
  unfold fL_undo at hf
  refine lv_aload_n hx hb dL_undo_0 rfl (lv_at hl 1 rfl) ?_
  refine lv_iconst (v := (0 : Int32)) hx hb dL_undo_1 (by decide) ?_
  refine lv_aload_n hx hb dL_undo_2 rfl (lv_at hl 0 rfl) ?_
  rcases bxw_some hf with ⟨e_1, hq_2, hf⟩ | ⟨r_3, S1, hq_2, hf⟩
  · by_cases c_4 : e_1 = 2
    · subst c_4
      replace hf := ite_t rfl hf
      refine kVql (id := 360) (As := []) (rest := [.int (0 : Int32), .ref (ad 379)]) X hR hS (zcX5_undo l D cy ad ba O S hl0 _ hq_2) (cwV 0 X.2.2.2.2.2.1 gL_undo_X5_undo rfl rfl rfl kdX5_undo ⟨(Nat.le_of_ble_eq_true rfl), (Nat.le_of_ble_eq_true rfl)⟩) (by decide) rfl rfl rfl rfl hl.1 (Nat.le_of_ble_eq_true rfl) ⟨(Nat.le_of_ble_eq_true rfl), (Nat.le_of_ble_eq_true rfl)⟩ dL_undo_3 (fun ce q9 H locs hR hS h3 h4 h5 => ?_)
      refine te_catch (c0 := 2) X htab [] [] (0, 8, 11, 15) rfl (by decide) (by decide) (fun z hz => nomatch hz) (by decide) (by decide) wL_undo_k15 h3 h4 h5 ?_
      refine lv_astore_n (lv' := [(2, .ref q9), (0, .ref (ad 360)), (1, .ref (ad 379))]) hx hb dL_undo_11 rfl hl (by decide) rfl (fun ls hl => ?_)
      refine lv_iconst (v := (1 : Int32)) hx hb dL_undo_12 (by decide) ?_
      exact eLx X hR hS (Option.some.inj hf) (Nat.le_of_ble_eq_true rfl) (Nat.le_of_ble_eq_true rfl) dL_undo_13
    replace hf := ite_f c_4 hf
    exact nomatch hf
  · refine kVqr (id := 360) (As := []) (rest := [.int (0 : Int32), .ref (ad 379)]) X hR hS (zcX5_undo l D cy ad ba O S hl0 _ hq_2) (cwV 0 X.2.2.2.2.2.1 gL_undo_X5_undo rfl rfl rfl kdX5_undo ⟨(Nat.le_of_ble_eq_true rfl), (Nat.le_of_ble_eq_true rfl)⟩) (by decide) rfl rfl rfl rfl hl.1 (Nat.le_of_ble_eq_true rfl) ⟨(Nat.le_of_ble_eq_true rfl), (Nat.le_of_ble_eq_true rfl)⟩ dL_undo_3 (fun H locs hR hS => ?_)
    refine lv_i2l hx hb dL_undo_6 rfl ?_
    refine te_last X hR hS dL_undo_7 (fun H locs hR hS => ?_)
    refine lv_goto (tgt := 14) hx hb dL_undo_8 (by decide) ?_
    refine lv_iconst (v := (0 : Int32)) hx hb dL_undo_14 (by decide) ?_
    exact eLx X hR hS (Option.some.inj hf) (Nat.le_of_ble_eq_true rfl) (Nat.le_of_ble_eq_true rfl) dL_undo_15
theorem zcL_undo (l : Launch) (D : va_G) (cy : Nat → ClassId) (ad : Nat → Nat) (ba : Nat) (O : Int64) (S : teS) (hl0 : l.stackTraces = false) (res : (Int32 × (Int64 × teS))) (hf : fL_undo S O = some res) : lI l yL_undo wsL_undo rmL_undo 1 6 D cy ad ba O S [.ref (ad 360), .ref (ad 379)] res :=
  te_ofh (hh := [(0, 8, 11, 15)]) (by decide) rfl (Nat.le_of_ble_eq_true rfl) (fun p e s m below meth c ls X htab hR hS hl => bL_undo_0 (S := S)  X htab hl0 _ _ _ hR hS hl hf)
abbrev rmL_blocking : Room := { frames := 7, cells := 1, slots := 6, locals := 116 }
theorem kdL_blocking : yL_blocking.cls = RL ∧ yL_blocking.cls ≠ "java/lang/invoke/MethodHandle" ∧ yL_blocking.cls ≠ "java/lang/invoke/VarHandle" ∧ (parseMethodDescriptor yL_blocking.desc).map (fun d => d.parameters.length) = some 4 := by decide +kernel
theorem wL_blocking_k13 : Cond.classLink RL 13 "java/lang/IllegalArgumentException" ∈ wsL_blocking := by decide +kernel
set_option maxRecDepth 100000 in
set_option maxHeartbeats 4000000 in
theorem bL_blocking_0 {p : Program} {l : Launch} {e : Env} {s : State} {m : MethodId} {args : Array Value} {below : List Frame} {meth : Method} {c : Code} {D : va_G} {cy : Nat → ClassId} {ad : Nat → Nat} {ba : Nat} {O : Int64} {S : teS}  {x1 : Int32} {x2 : Int32} {res : (Int32 × (Int64 × teS))} (X : teC wsL_blocking RL cL_blocking 5 (some .int) D cy ba p s m args meth c) (htab : c.exceptionTable.toList = tableOf [(0, 10, 13, 13)]) (hl0 : l.stackTraces = false) (H : Heap) (locs : List Loc) (ls : Array Slot) (hR : teR D cy ad ba O S H) (hS : va_S (teA ba) s.heap H locs) (hl : lv_has ls 5 [(0, .ref (ad 360)), (1, .int x1), (2, .int x2), (3, .ref (ad 379))]) (hf : fL_blocking x1 x2 S O = some res) : W p l e (headSpec wsL_blocking rmL_blocking).room s m args below meth c H locs 0 0 (vx_MQ below (va_Qi (fun a (u : Int64 × teS) => a = res.1 ∧ u = res.2) (fun u t => teR D cy ad ba u.1 u.2 t.heap) (teA ba)) (vx_X (fun _ : Unit => False) (fun _ _ _ => True) (teA ba)) args s 1 6 (teA ba)) (F0 m 0 ls []) := by
  have hx := X.1
  have hb := X.2.1
  have hown := X.2.2.2.2.1
  unfold fL_blocking at hf
  refine lv_aload_n hx hb dL_blocking_0 rfl (lv_at hl 3 rfl) ?_
  refine lv_iconst (v := (0 : Int32)) hx hb dL_blocking_1 (by decide) ?_
  refine lv_aload_n hx hb dL_blocking_2 rfl (lv_at hl 0 rfl) ?_
  refine lv_iload_n hx hb dL_blocking_3 rfl (lv_at hl 1 rfl) ?_
  refine lv_iload_n hx hb dL_blocking_4 rfl (lv_at hl 2 rfl) ?_
  rcases bxw_some hf with ⟨e_1, hq_2, hf⟩ | ⟨r_3, S1, hq_2, hf⟩
  · by_cases c_4 : e_1 = 1
    · subst c_4
      replace hf := ite_t rfl hf
      refine kVql (id := 360) (As := [.int x1, .int x2]) (rest := [.int (0 : Int32), .ref (ad 379)]) X hR hS (zcX5_blocking l D cy ad ba O S x1 x2 hl0 _ hq_2) (cwV 2 X.2.2.2.2.2.1 gL_blocking_X5_blocking rfl rfl rfl kdX5_blocking ⟨(Nat.le_of_ble_eq_true rfl), (Nat.le_of_ble_eq_true rfl)⟩) (by decide) rfl rfl rfl rfl hl.1 (Nat.le_of_ble_eq_true rfl) ⟨(Nat.le_of_ble_eq_true rfl), (Nat.le_of_ble_eq_true rfl)⟩ dL_blocking_5 (fun ce q9 H locs hR hS h3 h4 h5 => ?_)
      refine te_catch (c0 := 1) X htab [] [] (0, 10, 13, 13) rfl (by decide) (by decide) (fun z hz => nomatch hz) (by decide) (by decide) wL_blocking_k13 h3 h4 h5 ?_
      refine lv_astore (lv' := [(4, .ref q9), (0, .ref (ad 360)), (1, .int x1), (2, .int x2), (3, .ref (ad 379))]) hx hb dL_blocking_13 hl (by decide) rfl (fun ls hl => ?_)
      refine lv_iconst (v := (1 : Int32)) hx hb dL_blocking_15 (by decide) ?_
      exact eLx X hR hS (Option.some.inj hf) (Nat.le_of_ble_eq_true rfl) (Nat.le_of_ble_eq_true rfl) dL_blocking_16
    replace hf := ite_f c_4 hf
    exact nomatch hf
  · refine kVqr (id := 360) (As := [.int x1, .int x2]) (rest := [.int (0 : Int32), .ref (ad 379)]) X hR hS (zcX5_blocking l D cy ad ba O S x1 x2 hl0 _ hq_2) (cwV 2 X.2.2.2.2.2.1 gL_blocking_X5_blocking rfl rfl rfl kdX5_blocking ⟨(Nat.le_of_ble_eq_true rfl), (Nat.le_of_ble_eq_true rfl)⟩) (by decide) rfl rfl rfl rfl hl.1 (Nat.le_of_ble_eq_true rfl) ⟨(Nat.le_of_ble_eq_true rfl), (Nat.le_of_ble_eq_true rfl)⟩ dL_blocking_5 (fun H locs hR hS => ?_)
    refine lv_i2l hx hb dL_blocking_8 rfl ?_
    refine te_last X hR hS dL_blocking_9 (fun H locs hR hS => ?_)
    refine lv_goto (tgt := 17) hx hb dL_blocking_10 (by decide) ?_
    refine lv_iconst (v := (0 : Int32)) hx hb dL_blocking_17 (by decide) ?_
    exact eLx X hR hS (Option.some.inj hf) (Nat.le_of_ble_eq_true rfl) (Nat.le_of_ble_eq_true rfl) dL_blocking_18
theorem zcL_blocking (l : Launch) (D : va_G) (cy : Nat → ClassId) (ad : Nat → Nat) (ba : Nat) (O : Int64) (S : teS) (x1 : Int32) (x2 : Int32) (hl0 : l.stackTraces = false) (res : (Int32 × (Int64 × teS))) (hf : fL_blocking x1 x2 S O = some res) : lI l yL_blocking wsL_blocking rmL_blocking 1 6 D cy ad ba O S [.ref (ad 360), .int x1, .int x2, .ref (ad 379)] res :=
  te_ofh (hh := [(0, 10, 13, 13)]) (by decide) rfl (Nat.le_of_ble_eq_true rfl) (fun p e s m below meth c ls X htab hR hS hl => bL_blocking_0 (S := S) (x1 := x1) (x2 := x2) X htab hl0 _ _ _ hR hS hl hf)
abbrev rmL_bestPartner : Room := { frames := 8, cells := 1, slots := 6, locals := 137 }
theorem kdL_bestPartner : yL_bestPartner.cls = RL ∧ yL_bestPartner.cls ≠ "java/lang/invoke/MethodHandle" ∧ yL_bestPartner.cls ≠ "java/lang/invoke/VarHandle" ∧ (parseMethodDescriptor yL_bestPartner.desc).map (fun d => d.parameters.length) = some 4 := by decide +kernel
theorem wL_bestPartner_k28 : Cond.classLink RL 28 "java/lang/IndexOutOfBoundsException" ∈ wsL_bestPartner := by decide +kernel
set_option maxRecDepth 100000 in
set_option maxHeartbeats 4000000 in
theorem bL_bestPartner_0 {p : Program} {l : Launch} {e : Env} {s : State} {m : MethodId} {args : Array Value} {below : List Frame} {meth : Method} {c : Code} {D : va_G} {cy : Nat → ClassId} {ad : Nat → Nat} {ba : Nat} {O : Int64} {S : teS}  {x1 : Int32} {x2 : Int32} {res : (Int32 × (Int64 × teS))} (X : teC wsL_bestPartner RL cL_bestPartner 5 (some .int) D cy ba p s m args meth c) (htab : c.exceptionTable.toList = tableOf [(0, 10, 13, 28)]) (hl0 : l.stackTraces = false) (H : Heap) (locs : List Loc) (ls : Array Slot) (hR : teR D cy ad ba O S H) (hS : va_S (teA ba) s.heap H locs) (hl : lv_has ls 5 [(0, .ref (ad 360)), (1, .int x1), (2, .int x2), (3, .ref (ad 379))]) (hf : fL_bestPartner x1 x2 S O = some res) : W p l e (headSpec wsL_bestPartner rmL_bestPartner).room s m args below meth c H locs 0 0 (vx_MQ below (va_Qi (fun a (u : Int64 × teS) => a = res.1 ∧ u = res.2) (fun u t => teR D cy ad ba u.1 u.2 t.heap) (teA ba)) (vx_X (fun _ : Unit => False) (fun _ _ _ => True) (teA ba)) args s 1 6 (teA ba)) (F0 m 0 ls []) := by
  have hx := X.1
  have hb := X.2.1
  have hown := X.2.2.2.2.1
  unfold fL_bestPartner at hf
  refine lv_aload_n hx hb dL_bestPartner_0 rfl (lv_at hl 3 rfl) ?_
  refine lv_iconst (v := (0 : Int32)) hx hb dL_bestPartner_1 (by decide) ?_
  refine lv_aload_n hx hb dL_bestPartner_2 rfl (lv_at hl 0 rfl) ?_
  refine lv_iload_n hx hb dL_bestPartner_3 rfl (lv_at hl 1 rfl) ?_
  refine lv_iload_n hx hb dL_bestPartner_4 rfl (lv_at hl 2 rfl) ?_
  rcases bxw_some hf with ⟨e_1, hq_2, hf⟩ | ⟨r_3, S1, hq_2, hf⟩
  · by_cases c_4 : e_1 = 3
    · subst c_4
      replace hf := ite_t rfl hf
      refine kVql (id := 360) (As := [.int x1, .int x2]) (rest := [.int (0 : Int32), .ref (ad 379)]) X hR hS (zcX5_bestPartner l D cy ad ba O S x1 x2 hl0 _ hq_2) (cwV 2 X.2.2.2.2.2.1 gL_bestPartner_X5_bestPartner rfl rfl rfl kdX5_bestPartner ⟨(Nat.le_of_ble_eq_true rfl), (Nat.le_of_ble_eq_true rfl)⟩) (by decide) rfl rfl rfl rfl hl.1 (Nat.le_of_ble_eq_true rfl) ⟨(Nat.le_of_ble_eq_true rfl), (Nat.le_of_ble_eq_true rfl)⟩ dL_bestPartner_5 (fun ce q9 H locs hR hS h3 h4 h5 => ?_)
      refine te_catch (c0 := 3) X htab [] [] (0, 10, 13, 28) rfl (by decide) (by decide) (fun z hz => nomatch hz) (by decide) (by decide) wL_bestPartner_k28 h3 h4 h5 ?_
      refine lv_astore (lv' := [(4, .ref q9), (0, .ref (ad 360)), (1, .int x1), (2, .int x2), (3, .ref (ad 379))]) hx hb dL_bestPartner_13 hl (by decide) rfl (fun ls hl => ?_)
      refine lv_iconst (v := (1 : Int32)) hx hb dL_bestPartner_15 (by decide) ?_
      exact eLx X hR hS (Option.some.inj hf) (Nat.le_of_ble_eq_true rfl) (Nat.le_of_ble_eq_true rfl) dL_bestPartner_16
    replace hf := ite_f c_4 hf
    exact nomatch hf
  · refine kVqr (id := 360) (As := [.int x1, .int x2]) (rest := [.int (0 : Int32), .ref (ad 379)]) X hR hS (zcX5_bestPartner l D cy ad ba O S x1 x2 hl0 _ hq_2) (cwV 2 X.2.2.2.2.2.1 gL_bestPartner_X5_bestPartner rfl rfl rfl kdX5_bestPartner ⟨(Nat.le_of_ble_eq_true rfl), (Nat.le_of_ble_eq_true rfl)⟩) (by decide) rfl rfl rfl rfl hl.1 (Nat.le_of_ble_eq_true rfl) ⟨(Nat.le_of_ble_eq_true rfl), (Nat.le_of_ble_eq_true rfl)⟩ dL_bestPartner_5 (fun H locs hR hS => ?_)
    refine lv_i2l hx hb dL_bestPartner_8 rfl ?_
    refine te_last X hR hS dL_bestPartner_9 (fun H locs hR hS => ?_)
    refine lv_goto (tgt := 17) hx hb dL_bestPartner_10 (by decide) ?_
    refine lv_iconst (v := (0 : Int32)) hx hb dL_bestPartner_17 (by decide) ?_
    exact eLx X hR hS (Option.some.inj hf) (Nat.le_of_ble_eq_true rfl) (Nat.le_of_ble_eq_true rfl) dL_bestPartner_18
theorem zcL_bestPartner (l : Launch) (D : va_G) (cy : Nat → ClassId) (ad : Nat → Nat) (ba : Nat) (O : Int64) (S : teS) (x1 : Int32) (x2 : Int32) (hl0 : l.stackTraces = false) (res : (Int32 × (Int64 × teS))) (hf : fL_bestPartner x1 x2 S O = some res) : lI l yL_bestPartner wsL_bestPartner rmL_bestPartner 1 6 D cy ad ba O S [.ref (ad 360), .int x1, .int x2, .ref (ad 379)] res :=
  te_ofh (hh := [(0, 10, 13, 28)]) (by decide) rfl (Nat.le_of_ble_eq_true rfl) (fun p e s m below meth c ls X htab hR hS hl => bL_bestPartner_0 (S := S) (x1 := x1) (x2 := x2) X htab hl0 _ _ _ hR hS hl hf)
abbrev rmL_best : Room := { frames := 8, cells := 1, slots := 6, locals := 140 }
theorem kdL_best : yL_best.cls = RL ∧ yL_best.cls ≠ "java/lang/invoke/MethodHandle" ∧ yL_best.cls ≠ "java/lang/invoke/VarHandle" ∧ (parseMethodDescriptor yL_best.desc).map (fun d => d.parameters.length) = some 3 := by decide +kernel
theorem wL_best_k13 : Cond.classLink RL 13 "java/lang/IllegalArgumentException" ∈ wsL_best := by decide +kernel
set_option maxRecDepth 100000 in
set_option maxHeartbeats 4000000 in
theorem bL_best_0 {p : Program} {l : Launch} {e : Env} {s : State} {m : MethodId} {args : Array Value} {below : List Frame} {meth : Method} {c : Code} {D : va_G} {cy : Nat → ClassId} {ad : Nat → Nat} {ba : Nat} {O : Int64} {S : teS}  {x1 : Int32} {res : (Int32 × (Int64 × teS))} (X : teC wsL_best RL cL_best 4 (some .int) D cy ba p s m args meth c) (htab : c.exceptionTable.toList = tableOf [(0, 9, 12, 13)]) (hl0 : l.stackTraces = false) (H : Heap) (locs : List Loc) (ls : Array Slot) (hR : teR D cy ad ba O S H) (hS : va_S (teA ba) s.heap H locs) (hl : lv_has ls 4 [(0, .ref (ad 360)), (1, .int x1), (2, .ref (ad 379))]) (hf : fL_best x1 S O = some res) : W p l e (headSpec wsL_best rmL_best).room s m args below meth c H locs 0 0 (vx_MQ below (va_Qi (fun a (u : Int64 × teS) => a = res.1 ∧ u = res.2) (fun u t => teR D cy ad ba u.1 u.2 t.heap) (teA ba)) (vx_X (fun _ : Unit => False) (fun _ _ _ => True) (teA ba)) args s 1 6 (teA ba)) (F0 m 0 ls []) := by
  have hx := X.1
  have hb := X.2.1
  have hown := X.2.2.2.2.1
  unfold fL_best at hf
  refine lv_aload_n hx hb dL_best_0 rfl (lv_at hl 2 rfl) ?_
  refine lv_iconst (v := (0 : Int32)) hx hb dL_best_1 (by decide) ?_
  refine lv_aload_n hx hb dL_best_2 rfl (lv_at hl 0 rfl) ?_
  refine lv_iload_n hx hb dL_best_3 rfl (lv_at hl 1 rfl) ?_
  rcases bxw_some hf with ⟨e_1, hq_2, hf⟩ | ⟨r_3, S1, hq_2, hf⟩
  · by_cases c_4 : e_1 = 1
    · subst c_4
      replace hf := ite_t rfl hf
      refine kVql (id := 360) (As := [.int x1]) (rest := [.int (0 : Int32), .ref (ad 379)]) X hR hS (zcX5_best l D cy ad ba O S x1 hl0 _ hq_2) (cwV 1 X.2.2.2.2.2.1 gL_best_X5_best rfl rfl rfl kdX5_best ⟨(Nat.le_of_ble_eq_true rfl), (Nat.le_of_ble_eq_true rfl)⟩) (by decide) rfl rfl rfl rfl hl.1 (Nat.le_of_ble_eq_true rfl) ⟨(Nat.le_of_ble_eq_true rfl), (Nat.le_of_ble_eq_true rfl)⟩ dL_best_4 (fun ce q9 H locs hR hS h3 h4 h5 => ?_)
      refine te_catch (c0 := 1) X htab [] [] (0, 9, 12, 13) rfl (by decide) (by decide) (fun z hz => nomatch hz) (by decide) (by decide) wL_best_k13 h3 h4 h5 ?_
      refine lv_astore_n (lv' := [(3, .ref q9), (0, .ref (ad 360)), (1, .int x1), (2, .ref (ad 379))]) hx hb dL_best_12 rfl hl (by decide) rfl (fun ls hl => ?_)
      refine lv_iconst (v := (1 : Int32)) hx hb dL_best_13 (by decide) ?_
      exact eLx X hR hS (Option.some.inj hf) (Nat.le_of_ble_eq_true rfl) (Nat.le_of_ble_eq_true rfl) dL_best_14
    replace hf := ite_f c_4 hf
    exact nomatch hf
  · refine kVqr (id := 360) (As := [.int x1]) (rest := [.int (0 : Int32), .ref (ad 379)]) X hR hS (zcX5_best l D cy ad ba O S x1 hl0 _ hq_2) (cwV 1 X.2.2.2.2.2.1 gL_best_X5_best rfl rfl rfl kdX5_best ⟨(Nat.le_of_ble_eq_true rfl), (Nat.le_of_ble_eq_true rfl)⟩) (by decide) rfl rfl rfl rfl hl.1 (Nat.le_of_ble_eq_true rfl) ⟨(Nat.le_of_ble_eq_true rfl), (Nat.le_of_ble_eq_true rfl)⟩ dL_best_4 (fun H locs hR hS => ?_)
    refine lv_i2l hx hb dL_best_7 rfl ?_
    refine te_last X hR hS dL_best_8 (fun H locs hR hS => ?_)
    refine lv_goto (tgt := 15) hx hb dL_best_9 (by decide) ?_
    refine lv_iconst (v := (0 : Int32)) hx hb dL_best_15 (by decide) ?_
    exact eLx X hR hS (Option.some.inj hf) (Nat.le_of_ble_eq_true rfl) (Nat.le_of_ble_eq_true rfl) dL_best_16
theorem zcL_best (l : Launch) (D : va_G) (cy : Nat → ClassId) (ad : Nat → Nat) (ba : Nat) (O : Int64) (S : teS) (x1 : Int32) (hl0 : l.stackTraces = false) (res : (Int32 × (Int64 × teS))) (hf : fL_best x1 S O = some res) : lI l yL_best wsL_best rmL_best 1 6 D cy ad ba O S [.ref (ad 360), .int x1, .ref (ad 379)] res :=
  te_ofh (hh := [(0, 9, 12, 13)]) (by decide) rfl (Nat.le_of_ble_eq_true rfl) (fun p e s m below meth c ls X htab hR hS hl => bL_best_0 (S := S) (x1 := x1) X htab hl0 _ _ _ hR hS hl hf)
abbrev rmL_ahead : Room := { frames := 8, cells := 4, slots := 24, locals := 141 }
theorem kdL_ahead : yL_ahead.cls = RL ∧ yL_ahead.cls ≠ "java/lang/invoke/MethodHandle" ∧ yL_ahead.cls ≠ "java/lang/invoke/VarHandle" ∧ (parseMethodDescriptor yL_ahead.desc).map (fun d => d.parameters.length) = some 6 := by decide +kernel
theorem wL_ahead_k28 : Cond.classLink RL 28 "java/lang/IndexOutOfBoundsException" ∈ wsL_ahead := by decide +kernel
theorem wL_ahead_k13 : Cond.classLink RL 13 "java/lang/IllegalArgumentException" ∈ wsL_ahead := by decide +kernel
set_option maxRecDepth 100000 in
set_option maxHeartbeats 4000000 in
theorem bL_ahead_0 {p : Program} {l : Launch} {e : Env} {s : State} {m : MethodId} {args : Array Value} {below : List Frame} {meth : Method} {c : Code} {D : va_G} {cy : Nat → ClassId} {ad : Nat → Nat} {ba : Nat} {O : Int64} {S : teS}  {x1 : Int32} {x2 : Int32} {x3 : Int32} {x4 : Int32} {res : (Int32 × (Int64 × teS))} (X : teC wsL_ahead RL cL_ahead 7 (some .int) D cy ba p s m args meth c) (htab : c.exceptionTable.toList = tableOf [(0, 14, 17, 28), (0, 14, 21, 13)]) (hl0 : l.stackTraces = false) (H : Heap) (locs : List Loc) (ls : Array Slot) (hR : teR D cy ad ba O S H) (hS : va_S (teA ba) s.heap H locs) (hl : lv_has ls 7 [(0, .ref (ad 360)), (1, .int x1), (2, .int x2), (3, .int x3), (4, .int x4), (5, .ref (ad 379))]) (hf : fL_ahead x1 x2 x3 x4 S O = some res) : W p l e (headSpec wsL_ahead rmL_ahead).room s m args below meth c H locs 0 0 (vx_MQ below (va_Qi (fun a (u : Int64 × teS) => a = res.1 ∧ u = res.2) (fun u t => teR D cy ad ba u.1 u.2 t.heap) (teA ba)) (vx_X (fun _ : Unit => False) (fun _ _ _ => True) (teA ba)) args s 4 24 (teA ba)) (F0 m 0 ls []) := by
  have hx := X.1
  have hb := X.2.1
  have hown := X.2.2.2.2.1
  unfold fL_ahead at hf
  refine lv_aload hx hb dL_ahead_0 (lv_at hl 5 rfl) ?_
  refine lv_iconst (v := (0 : Int32)) hx hb dL_ahead_2 (by decide) ?_
  refine lv_aload_n hx hb dL_ahead_3 rfl (lv_at hl 0 rfl) ?_
  refine lv_iload_n hx hb dL_ahead_4 rfl (lv_at hl 1 rfl) ?_
  refine lv_iload_n hx hb dL_ahead_5 rfl (lv_at hl 2 rfl) ?_
  refine lv_iload_n hx hb dL_ahead_6 rfl (lv_at hl 3 rfl) ?_
  refine lv_iload hx hb dL_ahead_7 (lv_at hl 4 rfl) ?_
  rcases bxw_some hf with ⟨e_1, hq_2, hf⟩ | ⟨r_3, S1, hq_2, hf⟩
  · by_cases c_4 : e_1 = 3
    · subst c_4
      replace hf := ite_t rfl hf
      refine kVql (id := 360) (As := [.int x1, .int x2, .int x3, .int x4]) (rest := [.int (0 : Int32), .ref (ad 379)]) X hR hS (zcX5_ahead l D cy ad ba O S x1 x2 x3 x4 hl0 _ hq_2) (cwV 4 X.2.2.2.2.2.1 gL_ahead_X5_ahead rfl rfl rfl kdX5_ahead ⟨(Nat.le_of_ble_eq_true rfl), (Nat.le_of_ble_eq_true rfl)⟩) (by decide) rfl rfl rfl rfl hl.1 (Nat.le_of_ble_eq_true rfl) ⟨(Nat.le_of_ble_eq_true rfl), (Nat.le_of_ble_eq_true rfl)⟩ dL_ahead_9 (fun ce q9 H locs hR hS h3 h4 h5 => ?_)
      refine te_catch (c0 := 3) X htab [] [(0, 14, 21, 13)] (0, 14, 17, 28) rfl (by decide) (by decide) (fun z hz => nomatch hz) (by decide) (by decide) wL_ahead_k28 h3 h4 h5 ?_
      refine lv_astore (lv' := [(6, .ref q9), (0, .ref (ad 360)), (1, .int x1), (2, .int x2), (3, .int x3), (4, .int x4), (5, .ref (ad 379))]) hx hb dL_ahead_17 hl (by decide) rfl (fun ls hl => ?_)
      refine lv_iconst (v := (1 : Int32)) hx hb dL_ahead_19 (by decide) ?_
      exact eLx X hR hS (Option.some.inj hf) (Nat.le_of_ble_eq_true rfl) (Nat.le_of_ble_eq_true rfl) dL_ahead_20
    replace hf := ite_f c_4 hf
    by_cases c_5 : e_1 = 1
    · subst c_5
      replace hf := ite_t rfl hf
      refine kVql (id := 360) (As := [.int x1, .int x2, .int x3, .int x4]) (rest := [.int (0 : Int32), .ref (ad 379)]) X hR hS (zcX5_ahead l D cy ad ba O S x1 x2 x3 x4 hl0 _ hq_2) (cwV 4 X.2.2.2.2.2.1 gL_ahead_X5_ahead rfl rfl rfl kdX5_ahead ⟨(Nat.le_of_ble_eq_true rfl), (Nat.le_of_ble_eq_true rfl)⟩) (by decide) rfl rfl rfl rfl hl.1 (Nat.le_of_ble_eq_true rfl) ⟨(Nat.le_of_ble_eq_true rfl), (Nat.le_of_ble_eq_true rfl)⟩ dL_ahead_9 (fun ce q9 H locs hR hS h3 h4 h5 => ?_)
      refine te_catch (c0 := 1) X htab [(0, 14, 17, 28)] [] (0, 14, 21, 13) rfl (by decide) (by decide) (List.forall_mem_cons.mpr ⟨⟨by decide, 3, by decide, by decide, by decide, wL_ahead_k28⟩, fun z hz => nomatch hz⟩) (by decide) (by decide) wL_ahead_k13 h3 h4 h5 ?_
      refine lv_astore (lv' := [(6, .ref q9), (0, .ref (ad 360)), (1, .int x1), (2, .int x2), (3, .int x3), (4, .int x4), (5, .ref (ad 379))]) hx hb dL_ahead_21 hl (by decide) rfl (fun ls hl => ?_)
      refine lv_iconst (v := (2 : Int32)) hx hb dL_ahead_23 (by decide) ?_
      exact eLx X hR hS (Option.some.inj hf) (Nat.le_of_ble_eq_true rfl) (Nat.le_of_ble_eq_true rfl) dL_ahead_24
    replace hf := ite_f c_5 hf
    exact nomatch hf
  · refine kVqr (id := 360) (As := [.int x1, .int x2, .int x3, .int x4]) (rest := [.int (0 : Int32), .ref (ad 379)]) X hR hS (zcX5_ahead l D cy ad ba O S x1 x2 x3 x4 hl0 _ hq_2) (cwV 4 X.2.2.2.2.2.1 gL_ahead_X5_ahead rfl rfl rfl kdX5_ahead ⟨(Nat.le_of_ble_eq_true rfl), (Nat.le_of_ble_eq_true rfl)⟩) (by decide) rfl rfl rfl rfl hl.1 (Nat.le_of_ble_eq_true rfl) ⟨(Nat.le_of_ble_eq_true rfl), (Nat.le_of_ble_eq_true rfl)⟩ dL_ahead_9 (fun H locs hR hS => ?_)
    refine lv_i2l hx hb dL_ahead_12 rfl ?_
    refine te_last X hR hS dL_ahead_13 (fun H locs hR hS => ?_)
    refine lv_goto (tgt := 25) hx hb dL_ahead_14 (by decide) ?_
    refine lv_iconst (v := (0 : Int32)) hx hb dL_ahead_25 (by decide) ?_
    exact eLx X hR hS (Option.some.inj hf) (Nat.le_of_ble_eq_true rfl) (Nat.le_of_ble_eq_true rfl) dL_ahead_26
theorem zcL_ahead (l : Launch) (D : va_G) (cy : Nat → ClassId) (ad : Nat → Nat) (ba : Nat) (O : Int64) (S : teS) (x1 : Int32) (x2 : Int32) (x3 : Int32) (x4 : Int32) (hl0 : l.stackTraces = false) (res : (Int32 × (Int64 × teS))) (hf : fL_ahead x1 x2 x3 x4 S O = some res) : lI l yL_ahead wsL_ahead rmL_ahead 4 24 D cy ad ba O S [.ref (ad 360), .int x1, .int x2, .int x3, .int x4, .ref (ad 379)] res :=
  te_ofh (hh := [(0, 14, 17, 28), (0, 14, 21, 13)]) (by decide) rfl (Nat.le_of_ble_eq_true rfl) (fun p e s m below meth c ls X htab hR hS hl => bL_ahead_0 (S := S) (x1 := x1) (x2 := x2) (x3 := x3) (x4 := x4) X htab hl0 _ _ _ hR hS hl hf)
abbrev rmL_levelAfter : Room := { frames := 8, cells := 2, slots := 12, locals := 139 }
theorem kdL_levelAfter : yL_levelAfter.cls = RL ∧ yL_levelAfter.cls ≠ "java/lang/invoke/MethodHandle" ∧ yL_levelAfter.cls ≠ "java/lang/invoke/VarHandle" ∧ (parseMethodDescriptor yL_levelAfter.desc).map (fun d => d.parameters.length) = some 4 := by decide +kernel
theorem wL_levelAfter_k28 : Cond.classLink RL 28 "java/lang/IndexOutOfBoundsException" ∈ wsL_levelAfter := by decide +kernel
theorem wL_levelAfter_k13 : Cond.classLink RL 13 "java/lang/IllegalArgumentException" ∈ wsL_levelAfter := by decide +kernel
set_option maxRecDepth 100000 in
set_option maxHeartbeats 4000000 in
theorem bL_levelAfter_0 {p : Program} {l : Launch} {e : Env} {s : State} {m : MethodId} {args : Array Value} {below : List Frame} {meth : Method} {c : Code} {D : va_G} {cy : Nat → ClassId} {ad : Nat → Nat} {ba : Nat} {O : Int64} {S : teS}  {x1 : Int32} {x2 : Int32} {res : (Int32 × (Int64 × teS))} (X : teC wsL_levelAfter RL cL_levelAfter 5 (some .int) D cy ba p s m args meth c) (htab : c.exceptionTable.toList = tableOf [(0, 10, 13, 28), (0, 10, 17, 13)]) (hl0 : l.stackTraces = false) (H : Heap) (locs : List Loc) (ls : Array Slot) (hR : teR D cy ad ba O S H) (hS : va_S (teA ba) s.heap H locs) (hl : lv_has ls 5 [(0, .ref (ad 360)), (1, .int x1), (2, .int x2), (3, .ref (ad 379))]) (hf : fL_levelAfter x1 x2 S O = some res) : W p l e (headSpec wsL_levelAfter rmL_levelAfter).room s m args below meth c H locs 0 0 (vx_MQ below (va_Qi (fun a (u : Int64 × teS) => a = res.1 ∧ u = res.2) (fun u t => teR D cy ad ba u.1 u.2 t.heap) (teA ba)) (vx_X (fun _ : Unit => False) (fun _ _ _ => True) (teA ba)) args s 2 12 (teA ba)) (F0 m 0 ls []) := by
  have hx := X.1
  have hb := X.2.1
  have hown := X.2.2.2.2.1
  unfold fL_levelAfter at hf
  refine lv_aload_n hx hb dL_levelAfter_0 rfl (lv_at hl 3 rfl) ?_
  refine lv_iconst (v := (0 : Int32)) hx hb dL_levelAfter_1 (by decide) ?_
  refine lv_aload_n hx hb dL_levelAfter_2 rfl (lv_at hl 0 rfl) ?_
  refine lv_iload_n hx hb dL_levelAfter_3 rfl (lv_at hl 1 rfl) ?_
  refine lv_iload_n hx hb dL_levelAfter_4 rfl (lv_at hl 2 rfl) ?_
  rcases bxw_some hf with ⟨e_1, hq_2, hf⟩ | ⟨r_3, S1, hq_2, hf⟩
  · by_cases c_4 : e_1 = 3
    · subst c_4
      replace hf := ite_t rfl hf
      refine kVql (id := 360) (As := [.int x1, .int x2]) (rest := [.int (0 : Int32), .ref (ad 379)]) X hR hS (zcX5_levelAfter l D cy ad ba O S x1 x2 hl0 _ hq_2) (cwV 2 X.2.2.2.2.2.1 gL_levelAfter_X5_levelAfter rfl rfl rfl kdX5_levelAfter ⟨(Nat.le_of_ble_eq_true rfl), (Nat.le_of_ble_eq_true rfl)⟩) (by decide) rfl rfl rfl rfl hl.1 (Nat.le_of_ble_eq_true rfl) ⟨(Nat.le_of_ble_eq_true rfl), (Nat.le_of_ble_eq_true rfl)⟩ dL_levelAfter_5 (fun ce q9 H locs hR hS h3 h4 h5 => ?_)
      refine te_catch (c0 := 3) X htab [] [(0, 10, 17, 13)] (0, 10, 13, 28) rfl (by decide) (by decide) (fun z hz => nomatch hz) (by decide) (by decide) wL_levelAfter_k28 h3 h4 h5 ?_
      refine lv_astore (lv' := [(4, .ref q9), (0, .ref (ad 360)), (1, .int x1), (2, .int x2), (3, .ref (ad 379))]) hx hb dL_levelAfter_13 hl (by decide) rfl (fun ls hl => ?_)
      refine lv_iconst (v := (1 : Int32)) hx hb dL_levelAfter_15 (by decide) ?_
      exact eLx X hR hS (Option.some.inj hf) (Nat.le_of_ble_eq_true rfl) (Nat.le_of_ble_eq_true rfl) dL_levelAfter_16
    replace hf := ite_f c_4 hf
    by_cases c_5 : e_1 = 1
    · subst c_5
      replace hf := ite_t rfl hf
      refine kVql (id := 360) (As := [.int x1, .int x2]) (rest := [.int (0 : Int32), .ref (ad 379)]) X hR hS (zcX5_levelAfter l D cy ad ba O S x1 x2 hl0 _ hq_2) (cwV 2 X.2.2.2.2.2.1 gL_levelAfter_X5_levelAfter rfl rfl rfl kdX5_levelAfter ⟨(Nat.le_of_ble_eq_true rfl), (Nat.le_of_ble_eq_true rfl)⟩) (by decide) rfl rfl rfl rfl hl.1 (Nat.le_of_ble_eq_true rfl) ⟨(Nat.le_of_ble_eq_true rfl), (Nat.le_of_ble_eq_true rfl)⟩ dL_levelAfter_5 (fun ce q9 H locs hR hS h3 h4 h5 => ?_)
      refine te_catch (c0 := 1) X htab [(0, 10, 13, 28)] [] (0, 10, 17, 13) rfl (by decide) (by decide) (List.forall_mem_cons.mpr ⟨⟨by decide, 3, by decide, by decide, by decide, wL_levelAfter_k28⟩, fun z hz => nomatch hz⟩) (by decide) (by decide) wL_levelAfter_k13 h3 h4 h5 ?_
      refine lv_astore (lv' := [(4, .ref q9), (0, .ref (ad 360)), (1, .int x1), (2, .int x2), (3, .ref (ad 379))]) hx hb dL_levelAfter_17 hl (by decide) rfl (fun ls hl => ?_)
      refine lv_iconst (v := (2 : Int32)) hx hb dL_levelAfter_19 (by decide) ?_
      exact eLx X hR hS (Option.some.inj hf) (Nat.le_of_ble_eq_true rfl) (Nat.le_of_ble_eq_true rfl) dL_levelAfter_20
    replace hf := ite_f c_5 hf
    exact nomatch hf
  · refine kVqr (id := 360) (As := [.int x1, .int x2]) (rest := [.int (0 : Int32), .ref (ad 379)]) X hR hS (zcX5_levelAfter l D cy ad ba O S x1 x2 hl0 _ hq_2) (cwV 2 X.2.2.2.2.2.1 gL_levelAfter_X5_levelAfter rfl rfl rfl kdX5_levelAfter ⟨(Nat.le_of_ble_eq_true rfl), (Nat.le_of_ble_eq_true rfl)⟩) (by decide) rfl rfl rfl rfl hl.1 (Nat.le_of_ble_eq_true rfl) ⟨(Nat.le_of_ble_eq_true rfl), (Nat.le_of_ble_eq_true rfl)⟩ dL_levelAfter_5 (fun H locs hR hS => ?_)
    refine lv_i2l hx hb dL_levelAfter_8 rfl ?_
    refine te_last X hR hS dL_levelAfter_9 (fun H locs hR hS => ?_)
    refine lv_goto (tgt := 21) hx hb dL_levelAfter_10 (by decide) ?_
    refine lv_iconst (v := (0 : Int32)) hx hb dL_levelAfter_21 (by decide) ?_
    exact eLx X hR hS (Option.some.inj hf) (Nat.le_of_ble_eq_true rfl) (Nat.le_of_ble_eq_true rfl) dL_levelAfter_22
theorem zcL_levelAfter (l : Launch) (D : va_G) (cy : Nat → ClassId) (ad : Nat → Nat) (ba : Nat) (O : Int64) (S : teS) (x1 : Int32) (x2 : Int32) (hl0 : l.stackTraces = false) (res : (Int32 × (Int64 × teS))) (hf : fL_levelAfter x1 x2 S O = some res) : lI l yL_levelAfter wsL_levelAfter rmL_levelAfter 2 12 D cy ad ba O S [.ref (ad 360), .int x1, .int x2, .ref (ad 379)] res :=
  te_ofh (hh := [(0, 10, 13, 28), (0, 10, 17, 13)]) (by decide) rfl (Nat.le_of_ble_eq_true rfl) (fun p e s m below meth c ls X htab hR hS hl => bL_levelAfter_0 (S := S) (x1 := x1) (x2 := x2) X htab hl0 _ _ _ hR hS hl hf)
abbrev rmL_partsAfter : Room := { frames := 8, cells := 3, slots := 18, locals := 139 }
theorem kdL_partsAfter : yL_partsAfter.cls = RL ∧ yL_partsAfter.cls ≠ "java/lang/invoke/MethodHandle" ∧ yL_partsAfter.cls ≠ "java/lang/invoke/VarHandle" ∧ (parseMethodDescriptor yL_partsAfter.desc).map (fun d => d.parameters.length) = some 4 := by decide +kernel
theorem wL_partsAfter_k28 : Cond.classLink RL 28 "java/lang/IndexOutOfBoundsException" ∈ wsL_partsAfter := by decide +kernel
theorem wL_partsAfter_k13 : Cond.classLink RL 13 "java/lang/IllegalArgumentException" ∈ wsL_partsAfter := by decide +kernel
theorem wL_partsAfter_k15 : Cond.classLink RL 15 "java/lang/IllegalStateException" ∈ wsL_partsAfter := by decide +kernel
set_option maxRecDepth 100000 in
set_option maxHeartbeats 4000000 in
theorem bL_partsAfter_0 {p : Program} {l : Launch} {e : Env} {s : State} {m : MethodId} {args : Array Value} {below : List Frame} {meth : Method} {c : Code} {D : va_G} {cy : Nat → ClassId} {ad : Nat → Nat} {ba : Nat} {O : Int64} {S : teS}  {x1 : Int32} {x2 : Int32} {res : (Int32 × (Int64 × teS))} (X : teC wsL_partsAfter RL cL_partsAfter 5 (some .int) D cy ba p s m args meth c) (htab : c.exceptionTable.toList = tableOf [(0, 10, 13, 28), (0, 10, 17, 13), (0, 10, 21, 15)]) (hl0 : l.stackTraces = false) (H : Heap) (locs : List Loc) (ls : Array Slot) (hR : teR D cy ad ba O S H) (hS : va_S (teA ba) s.heap H locs) (hl : lv_has ls 5 [(0, .ref (ad 360)), (1, .int x1), (2, .int x2), (3, .ref (ad 379))]) (hf : fL_partsAfter x1 x2 S O = some res) : W p l e (headSpec wsL_partsAfter rmL_partsAfter).room s m args below meth c H locs 0 0 (vx_MQ below (va_Qi (fun a (u : Int64 × teS) => a = res.1 ∧ u = res.2) (fun u t => teR D cy ad ba u.1 u.2 t.heap) (teA ba)) (vx_X (fun _ : Unit => False) (fun _ _ _ => True) (teA ba)) args s 3 18 (teA ba)) (F0 m 0 ls []) := by
  have hx := X.1
  have hb := X.2.1
  have hown := X.2.2.2.2.1
  unfold fL_partsAfter at hf
  refine lv_aload_n hx hb dL_partsAfter_0 rfl (lv_at hl 3 rfl) ?_
  refine lv_iconst (v := (0 : Int32)) hx hb dL_partsAfter_1 (by decide) ?_
  refine lv_aload_n hx hb dL_partsAfter_2 rfl (lv_at hl 0 rfl) ?_
  refine lv_iload_n hx hb dL_partsAfter_3 rfl (lv_at hl 1 rfl) ?_
  refine lv_iload_n hx hb dL_partsAfter_4 rfl (lv_at hl 2 rfl) ?_
  rcases bxw_some hf with ⟨e_1, hq_2, hf⟩ | ⟨r_3, S1, hq_2, hf⟩
  · by_cases c_4 : e_1 = 3
    · subst c_4
      replace hf := ite_t rfl hf
      refine kVql (id := 360) (As := [.int x1, .int x2]) (rest := [.int (0 : Int32), .ref (ad 379)]) X hR hS (zcX5_partsAfter l D cy ad ba O S x1 x2 hl0 _ hq_2) (cwV 2 X.2.2.2.2.2.1 gL_partsAfter_X5_partsAfter rfl rfl rfl kdX5_partsAfter ⟨(Nat.le_of_ble_eq_true rfl), (Nat.le_of_ble_eq_true rfl)⟩) (by decide) rfl rfl rfl rfl hl.1 (Nat.le_of_ble_eq_true rfl) ⟨(Nat.le_of_ble_eq_true rfl), (Nat.le_of_ble_eq_true rfl)⟩ dL_partsAfter_5 (fun ce q9 H locs hR hS h3 h4 h5 => ?_)
      refine te_catch (c0 := 3) X htab [] [(0, 10, 17, 13), (0, 10, 21, 15)] (0, 10, 13, 28) rfl (by decide) (by decide) (fun z hz => nomatch hz) (by decide) (by decide) wL_partsAfter_k28 h3 h4 h5 ?_
      refine lv_astore (lv' := [(4, .ref q9), (0, .ref (ad 360)), (1, .int x1), (2, .int x2), (3, .ref (ad 379))]) hx hb dL_partsAfter_13 hl (by decide) rfl (fun ls hl => ?_)
      refine lv_iconst (v := (1 : Int32)) hx hb dL_partsAfter_15 (by decide) ?_
      exact eLx X hR hS (Option.some.inj hf) (Nat.le_of_ble_eq_true rfl) (Nat.le_of_ble_eq_true rfl) dL_partsAfter_16
    replace hf := ite_f c_4 hf
    by_cases c_5 : e_1 = 1
    · subst c_5
      replace hf := ite_t rfl hf
      refine kVql (id := 360) (As := [.int x1, .int x2]) (rest := [.int (0 : Int32), .ref (ad 379)]) X hR hS (zcX5_partsAfter l D cy ad ba O S x1 x2 hl0 _ hq_2) (cwV 2 X.2.2.2.2.2.1 gL_partsAfter_X5_partsAfter rfl rfl rfl kdX5_partsAfter ⟨(Nat.le_of_ble_eq_true rfl), (Nat.le_of_ble_eq_true rfl)⟩) (by decide) rfl rfl rfl rfl hl.1 (Nat.le_of_ble_eq_true rfl) ⟨(Nat.le_of_ble_eq_true rfl), (Nat.le_of_ble_eq_true rfl)⟩ dL_partsAfter_5 (fun ce q9 H locs hR hS h3 h4 h5 => ?_)
      refine te_catch (c0 := 1) X htab [(0, 10, 13, 28)] [(0, 10, 21, 15)] (0, 10, 17, 13) rfl (by decide) (by decide) (List.forall_mem_cons.mpr ⟨⟨by decide, 3, by decide, by decide, by decide, wL_partsAfter_k28⟩, fun z hz => nomatch hz⟩) (by decide) (by decide) wL_partsAfter_k13 h3 h4 h5 ?_
      refine lv_astore (lv' := [(4, .ref q9), (0, .ref (ad 360)), (1, .int x1), (2, .int x2), (3, .ref (ad 379))]) hx hb dL_partsAfter_17 hl (by decide) rfl (fun ls hl => ?_)
      refine lv_iconst (v := (2 : Int32)) hx hb dL_partsAfter_19 (by decide) ?_
      exact eLx X hR hS (Option.some.inj hf) (Nat.le_of_ble_eq_true rfl) (Nat.le_of_ble_eq_true rfl) dL_partsAfter_20
    replace hf := ite_f c_5 hf
    by_cases c_6 : e_1 = 2
    · subst c_6
      replace hf := ite_t rfl hf
      refine kVql (id := 360) (As := [.int x1, .int x2]) (rest := [.int (0 : Int32), .ref (ad 379)]) X hR hS (zcX5_partsAfter l D cy ad ba O S x1 x2 hl0 _ hq_2) (cwV 2 X.2.2.2.2.2.1 gL_partsAfter_X5_partsAfter rfl rfl rfl kdX5_partsAfter ⟨(Nat.le_of_ble_eq_true rfl), (Nat.le_of_ble_eq_true rfl)⟩) (by decide) rfl rfl rfl rfl hl.1 (Nat.le_of_ble_eq_true rfl) ⟨(Nat.le_of_ble_eq_true rfl), (Nat.le_of_ble_eq_true rfl)⟩ dL_partsAfter_5 (fun ce q9 H locs hR hS h3 h4 h5 => ?_)
      refine te_catch (c0 := 2) X htab [(0, 10, 13, 28), (0, 10, 17, 13)] [] (0, 10, 21, 15) rfl (by decide) (by decide) (List.forall_mem_cons.mpr ⟨⟨by decide, 3, by decide, by decide, by decide, wL_partsAfter_k28⟩, List.forall_mem_cons.mpr ⟨⟨by decide, 1, by decide, by decide, by decide, wL_partsAfter_k13⟩, fun z hz => nomatch hz⟩⟩) (by decide) (by decide) wL_partsAfter_k15 h3 h4 h5 ?_
      refine lv_astore (lv' := [(4, .ref q9), (0, .ref (ad 360)), (1, .int x1), (2, .int x2), (3, .ref (ad 379))]) hx hb dL_partsAfter_21 hl (by decide) rfl (fun ls hl => ?_)
      refine lv_iconst (v := (3 : Int32)) hx hb dL_partsAfter_23 (by decide) ?_
      exact eLx X hR hS (Option.some.inj hf) (Nat.le_of_ble_eq_true rfl) (Nat.le_of_ble_eq_true rfl) dL_partsAfter_24
    replace hf := ite_f c_6 hf
    exact nomatch hf
  · refine kVqr (id := 360) (As := [.int x1, .int x2]) (rest := [.int (0 : Int32), .ref (ad 379)]) X hR hS (zcX5_partsAfter l D cy ad ba O S x1 x2 hl0 _ hq_2) (cwV 2 X.2.2.2.2.2.1 gL_partsAfter_X5_partsAfter rfl rfl rfl kdX5_partsAfter ⟨(Nat.le_of_ble_eq_true rfl), (Nat.le_of_ble_eq_true rfl)⟩) (by decide) rfl rfl rfl rfl hl.1 (Nat.le_of_ble_eq_true rfl) ⟨(Nat.le_of_ble_eq_true rfl), (Nat.le_of_ble_eq_true rfl)⟩ dL_partsAfter_5 (fun H locs hR hS => ?_)
    refine lv_i2l hx hb dL_partsAfter_8 rfl ?_
    refine te_last X hR hS dL_partsAfter_9 (fun H locs hR hS => ?_)
    refine lv_goto (tgt := 25) hx hb dL_partsAfter_10 (by decide) ?_
    refine lv_iconst (v := (0 : Int32)) hx hb dL_partsAfter_25 (by decide) ?_
    exact eLx X hR hS (Option.some.inj hf) (Nat.le_of_ble_eq_true rfl) (Nat.le_of_ble_eq_true rfl) dL_partsAfter_26
theorem zcL_partsAfter (l : Launch) (D : va_G) (cy : Nat → ClassId) (ad : Nat → Nat) (ba : Nat) (O : Int64) (S : teS) (x1 : Int32) (x2 : Int32) (hl0 : l.stackTraces = false) (res : (Int32 × (Int64 × teS))) (hf : fL_partsAfter x1 x2 S O = some res) : lI l yL_partsAfter wsL_partsAfter rmL_partsAfter 3 18 D cy ad ba O S [.ref (ad 360), .int x1, .int x2, .ref (ad 379)] res :=
  te_ofh (hh := [(0, 10, 13, 28), (0, 10, 17, 13), (0, 10, 21, 15)]) (by decide) rfl (Nat.le_of_ble_eq_true rfl) (fun p e s m below meth c ls X htab hR hS hl => bL_partsAfter_0 (S := S) (x1 := x1) (x2 := x2) X htab hl0 _ _ _ hR hS hl hf)
abbrev rmL_runScript : Room := { frames := 8, cells := 2, slots := 12, locals := 186 }
theorem kdL_runScript : yL_runScript.cls = RL ∧ yL_runScript.cls ≠ "java/lang/invoke/MethodHandle" ∧ yL_runScript.cls ≠ "java/lang/invoke/VarHandle" ∧ (parseMethodDescriptor yL_runScript.desc).map (fun d => d.parameters.length) = some 4 := by decide +kernel
theorem wL_runScript_k13 : Cond.classLink RL 13 "java/lang/IllegalArgumentException" ∈ wsL_runScript := by decide +kernel
set_option maxRecDepth 100000 in
set_option maxHeartbeats 4000000 in
theorem bL_runScript_0 {p : Program} {l : Launch} {e : Env} {s : State} {m : MethodId} {args : Array Value} {below : List Frame} {meth : Method} {c : Code} {D : va_G} {cy : Nat → ClassId} {ad : Nat → Nat} {ba : Nat} {O : Int64} {S : teS}  {x1 : Int32} {x2 : Int64} {res : (Int32 × (Int64 × teS))} (X : teC wsL_runScript RL cL_runScript 6 (some .int) D cy ba p s m args meth c) (htab : c.exceptionTable.toList = tableOf [(0, 11, 14, 13)]) (hl0 : l.stackTraces = false) (H : Heap) (locs : List Loc) (ls : Array Slot) (hR : teR D cy ad ba O S H) (hS : va_S (teA ba) s.heap H locs) (hl : lv_has ls 6 [(0, .ref (ad 360)), (1, .int x1), (2, .long x2), (4, .ref (ad 379))]) (hf : fL_runScript x1 x2 S O = some res) : W p l e (headSpec wsL_runScript rmL_runScript).room s m args below meth c H locs 0 0 (vx_MQ below (va_Qi (fun a (u : Int64 × teS) => a = res.1 ∧ u = res.2) (fun u t => teR D cy ad ba u.1 u.2 t.heap) (teA ba)) (vx_X (fun _ : Unit => False) (fun _ _ _ => True) (teA ba)) args s 2 12 (teA ba)) (F0 m 0 ls []) := by
  have hx := X.1
  have hb := X.2.1
  have hown := X.2.2.2.2.1
  unfold fL_runScript at hf
  refine lv_aload hx hb dL_runScript_0 (lv_at hl 3 rfl) ?_
  refine lv_iconst (v := (0 : Int32)) hx hb dL_runScript_2 (by decide) ?_
  refine lv_aload_n hx hb dL_runScript_3 rfl (lv_at hl 0 rfl) ?_
  refine lv_iload_n hx hb dL_runScript_4 rfl (lv_at hl 1 rfl) ?_
  refine lv_lload_n hx hb dL_runScript_5 rfl (lv_at hl 2 rfl) ?_
  rcases bxw_some hf with ⟨e_1, hq_2, hf⟩ | ⟨r_3, S1, hq_2, hf⟩
  · by_cases c_4 : e_1 = 1
    · subst c_4
      replace hf := ite_t rfl hf
      refine kVql (id := 360) (As := [.int x1, .long x2]) (rest := [.int (0 : Int32), .ref (ad 379)]) X hR hS (zcX5_runScript l D cy ad ba O S x1 x2 hl0 _ hq_2) (cwV 2 X.2.2.2.2.2.1 gL_runScript_X5_runScript rfl rfl rfl kdX5_runScript ⟨(Nat.le_of_ble_eq_true rfl), (Nat.le_of_ble_eq_true rfl)⟩) (by decide) rfl rfl rfl rfl hl.1 (Nat.le_of_ble_eq_true rfl) ⟨(Nat.le_of_ble_eq_true rfl), (Nat.le_of_ble_eq_true rfl)⟩ dL_runScript_6 (fun ce q9 H locs hR hS h3 h4 h5 => ?_)
      refine te_catch (c0 := 1) X htab [] [] (0, 11, 14, 13) rfl (by decide) (by decide) (fun z hz => nomatch hz) (by decide) (by decide) wL_runScript_k13 h3 h4 h5 ?_
      refine lv_astore (lv' := [(5, .ref q9), (0, .ref (ad 360)), (1, .int x1), (2, .long x2), (4, .ref (ad 379))]) hx hb dL_runScript_14 hl (by decide) rfl (fun ls hl => ?_)
      refine lv_iconst (v := (1 : Int32)) hx hb dL_runScript_16 (by decide) ?_
      exact eLx X hR hS (Option.some.inj hf) (Nat.le_of_ble_eq_true rfl) (Nat.le_of_ble_eq_true rfl) dL_runScript_17
    replace hf := ite_f c_4 hf
    exact nomatch hf
  · refine kVqr (id := 360) (As := [.int x1, .long x2]) (rest := [.int (0 : Int32), .ref (ad 379)]) X hR hS (zcX5_runScript l D cy ad ba O S x1 x2 hl0 _ hq_2) (cwV 2 X.2.2.2.2.2.1 gL_runScript_X5_runScript rfl rfl rfl kdX5_runScript ⟨(Nat.le_of_ble_eq_true rfl), (Nat.le_of_ble_eq_true rfl)⟩) (by decide) rfl rfl rfl rfl hl.1 (Nat.le_of_ble_eq_true rfl) ⟨(Nat.le_of_ble_eq_true rfl), (Nat.le_of_ble_eq_true rfl)⟩ dL_runScript_6 (fun H locs hR hS => ?_)
    refine lv_i2l hx hb dL_runScript_9 rfl ?_
    refine te_last X hR hS dL_runScript_10 (fun H locs hR hS => ?_)
    refine lv_goto (tgt := 18) hx hb dL_runScript_11 (by decide) ?_
    refine lv_iconst (v := (0 : Int32)) hx hb dL_runScript_18 (by decide) ?_
    exact eLx X hR hS (Option.some.inj hf) (Nat.le_of_ble_eq_true rfl) (Nat.le_of_ble_eq_true rfl) dL_runScript_19
theorem zcL_runScript (l : Launch) (D : va_G) (cy : Nat → ClassId) (ad : Nat → Nat) (ba : Nat) (O : Int64) (S : teS) (x1 : Int32) (x2 : Int64) (hl0 : l.stackTraces = false) (res : (Int32 × (Int64 × teS))) (hf : fL_runScript x1 x2 S O = some res) : lI l yL_runScript wsL_runScript rmL_runScript 2 12 D cy ad ba O S [.ref (ad 360), .int x1, .long x2, .ref (ad 379)] res :=
  te_ofh (hh := [(0, 11, 14, 13)]) (by decide) rfl (Nat.le_of_ble_eq_true rfl) (fun p e s m below meth c ls X htab hR hS hl => bL_runScript_0 (S := S) (x1 := x1) (x2 := x2) X htab hl0 _ _ _ hR hS hl hf)
abbrev rmL_simulate : Room := { frames := 8, cells := 1, slots := 6, locals := 143 }
theorem kdL_simulate : yL_simulate.cls = RL ∧ yL_simulate.cls ≠ "java/lang/invoke/MethodHandle" ∧ yL_simulate.cls ≠ "java/lang/invoke/VarHandle" ∧ (parseMethodDescriptor yL_simulate.desc).map (fun d => d.parameters.length) = some 4 := by decide +kernel
theorem wL_simulate_k13 : Cond.classLink RL 13 "java/lang/IllegalArgumentException" ∈ wsL_simulate := by decide +kernel
set_option maxRecDepth 100000 in
set_option maxHeartbeats 4000000 in
theorem bL_simulate_0 {p : Program} {l : Launch} {e : Env} {s : State} {m : MethodId} {args : Array Value} {below : List Frame} {meth : Method} {c : Code} {D : va_G} {cy : Nat → ClassId} {ad : Nat → Nat} {ba : Nat} {O : Int64} {S : teS}  {x1 : Int64} {x3 : Int32} {res : (Int32 × (Int64 × teS))} (X : teC wsL_simulate RL cL_simulate 6 (some .int) D cy ba p s m args meth c) (htab : c.exceptionTable.toList = tableOf [(0, 11, 14, 13)]) (hl0 : l.stackTraces = false) (H : Heap) (locs : List Loc) (ls : Array Slot) (hR : teR D cy ad ba O S H) (hS : va_S (teA ba) s.heap H locs) (hl : lv_has ls 6 [(0, .ref (ad 360)), (1, .long x1), (3, .int x3), (4, .ref (ad 379))]) (hf : fL_simulate x1 x3 S O = some res) : W p l e (headSpec wsL_simulate rmL_simulate).room s m args below meth c H locs 0 0 (vx_MQ below (va_Qi (fun a (u : Int64 × teS) => a = res.1 ∧ u = res.2) (fun u t => teR D cy ad ba u.1 u.2 t.heap) (teA ba)) (vx_X (fun _ : Unit => False) (fun _ _ _ => True) (teA ba)) args s 1 6 (teA ba)) (F0 m 0 ls []) := by
  have hx := X.1
  have hb := X.2.1
  have hown := X.2.2.2.2.1
  unfold fL_simulate at hf
  refine lv_aload hx hb dL_simulate_0 (lv_at hl 3 rfl) ?_
  refine lv_iconst (v := (0 : Int32)) hx hb dL_simulate_2 (by decide) ?_
  refine lv_aload_n hx hb dL_simulate_3 rfl (lv_at hl 0 rfl) ?_
  refine lv_lload_n hx hb dL_simulate_4 rfl (lv_at hl 1 rfl) ?_
  refine lv_iload_n hx hb dL_simulate_5 rfl (lv_at hl 2 rfl) ?_
  rcases bxw_some hf with ⟨e_1, hq_2, hf⟩ | ⟨r_3, S1, hq_2, hf⟩
  · by_cases c_4 : e_1 = 1
    · subst c_4
      replace hf := ite_t rfl hf
      refine kVql (id := 360) (As := [.long x1, .int x3]) (rest := [.int (0 : Int32), .ref (ad 379)]) X hR hS (zcX5_simulate l D cy ad ba O S x1 x3 hl0 _ hq_2) (cwV 2 X.2.2.2.2.2.1 gL_simulate_X5_simulate rfl rfl rfl kdX5_simulate ⟨(Nat.le_of_ble_eq_true rfl), (Nat.le_of_ble_eq_true rfl)⟩) (by decide) rfl rfl rfl rfl hl.1 (Nat.le_of_ble_eq_true rfl) ⟨(Nat.le_of_ble_eq_true rfl), (Nat.le_of_ble_eq_true rfl)⟩ dL_simulate_6 (fun ce q9 H locs hR hS h3 h4 h5 => ?_)
      refine te_catch (c0 := 1) X htab [] [] (0, 11, 14, 13) rfl (by decide) (by decide) (fun z hz => nomatch hz) (by decide) (by decide) wL_simulate_k13 h3 h4 h5 ?_
      refine lv_astore (lv' := [(5, .ref q9), (0, .ref (ad 360)), (1, .long x1), (3, .int x3), (4, .ref (ad 379))]) hx hb dL_simulate_14 hl (by decide) rfl (fun ls hl => ?_)
      refine lv_iconst (v := (1 : Int32)) hx hb dL_simulate_16 (by decide) ?_
      exact eLx X hR hS (Option.some.inj hf) (Nat.le_of_ble_eq_true rfl) (Nat.le_of_ble_eq_true rfl) dL_simulate_17
    replace hf := ite_f c_4 hf
    exact nomatch hf
  · refine kVqr (id := 360) (As := [.long x1, .int x3]) (rest := [.int (0 : Int32), .ref (ad 379)]) X hR hS (zcX5_simulate l D cy ad ba O S x1 x3 hl0 _ hq_2) (cwV 2 X.2.2.2.2.2.1 gL_simulate_X5_simulate rfl rfl rfl kdX5_simulate ⟨(Nat.le_of_ble_eq_true rfl), (Nat.le_of_ble_eq_true rfl)⟩) (by decide) rfl rfl rfl rfl hl.1 (Nat.le_of_ble_eq_true rfl) ⟨(Nat.le_of_ble_eq_true rfl), (Nat.le_of_ble_eq_true rfl)⟩ dL_simulate_6 (fun H locs hR hS => ?_)
    refine lv_i2l hx hb dL_simulate_9 rfl ?_
    refine te_last X hR hS dL_simulate_10 (fun H locs hR hS => ?_)
    refine lv_goto (tgt := 18) hx hb dL_simulate_11 (by decide) ?_
    refine lv_iconst (v := (0 : Int32)) hx hb dL_simulate_18 (by decide) ?_
    exact eLx X hR hS (Option.some.inj hf) (Nat.le_of_ble_eq_true rfl) (Nat.le_of_ble_eq_true rfl) dL_simulate_19
theorem zcL_simulate (l : Launch) (D : va_G) (cy : Nat → ClassId) (ad : Nat → Nat) (ba : Nat) (O : Int64) (S : teS) (x1 : Int64) (x3 : Int32) (hl0 : l.stackTraces = false) (res : (Int32 × (Int64 × teS))) (hf : fL_simulate x1 x3 S O = some res) : lI l yL_simulate wsL_simulate rmL_simulate 1 6 D cy ad ba O S [.ref (ad 360), .long x1, .int x3, .ref (ad 379)] res :=
  te_ofh (hh := [(0, 11, 14, 13)]) (by decide) rfl (Nat.le_of_ble_eq_true rfl) (fun p e s m below meth c ls X htab hR hS hl => bL_simulate_0 (S := S) (x1 := x1) (x3 := x3) X htab hl0 _ _ _ hR hS hl hf)
abbrev rmL_save : Room := { frames := 8, cells := 1, slots := 6, locals := 131 }
theorem kdL_save : yL_save.cls = RL ∧ yL_save.cls ≠ "java/lang/invoke/MethodHandle" ∧ yL_save.cls ≠ "java/lang/invoke/VarHandle" ∧ (parseMethodDescriptor yL_save.desc).map (fun d => d.parameters.length) = some 3 := by decide +kernel
theorem wL_save_k28 : Cond.classLink RL 28 "java/lang/IndexOutOfBoundsException" ∈ wsL_save := by decide +kernel
set_option maxRecDepth 100000 in
set_option maxHeartbeats 4000000 in
theorem bL_save_0 {p : Program} {l : Launch} {e : Env} {s : State} {m : MethodId} {args : Array Value} {below : List Frame} {meth : Method} {c : Code} {D : va_G} {cy : Nat → ClassId} {ad : Nat → Nat} {ba : Nat} {O : Int64} {S : teS}  {x1 : Int32} {res : (Int32 × (Int64 × teS))} (X : teC wsL_save RL cL_save 4 (some .int) D cy ba p s m args meth c) (htab : c.exceptionTable.toList = tableOf [(0, 9, 12, 28)]) (hl0 : l.stackTraces = false) (H : Heap) (locs : List Loc) (ls : Array Slot) (hR : teR D cy ad ba O S H) (hS : va_S (teA ba) s.heap H locs) (hl : lv_has ls 4 [(0, .ref (ad 360)), (1, .int x1), (2, .ref (ad 379))]) (hf : fL_save x1 S O = some res) : W p l e (headSpec wsL_save rmL_save).room s m args below meth c H locs 0 0 (vx_MQ below (va_Qi (fun a (u : Int64 × teS) => a = res.1 ∧ u = res.2) (fun u t => teR D cy ad ba u.1 u.2 t.heap) (teA ba)) (vx_X (fun _ : Unit => False) (fun _ _ _ => True) (teA ba)) args s 1 6 (teA ba)) (F0 m 0 ls []) := by
  have hx := X.1
  have hb := X.2.1
  have hown := X.2.2.2.2.1
  unfold fL_save at hf
  refine lv_aload_n hx hb dL_save_0 rfl (lv_at hl 2 rfl) ?_
  refine lv_iconst (v := (0 : Int32)) hx hb dL_save_1 (by decide) ?_
  refine lv_aload_n hx hb dL_save_2 rfl (lv_at hl 0 rfl) ?_
  refine lv_iload_n hx hb dL_save_3 rfl (lv_at hl 1 rfl) ?_
  rcases bxw_some hf with ⟨e_1, hq_2, hf⟩ | ⟨r_3, S1, hq_2, hf⟩
  · by_cases c_4 : e_1 = 3
    · subst c_4
      replace hf := ite_t rfl hf
      refine kVql (id := 360) (As := [.int x1]) (rest := [.int (0 : Int32), .ref (ad 379)]) X hR hS (zcX5_save l D cy ad ba O S x1 hl0 _ hq_2) (cwV 1 X.2.2.2.2.2.1 gL_save_X5_save rfl rfl rfl kdX5_save ⟨(Nat.le_of_ble_eq_true rfl), (Nat.le_of_ble_eq_true rfl)⟩) (by decide) rfl rfl rfl rfl hl.1 (Nat.le_of_ble_eq_true rfl) ⟨(Nat.le_of_ble_eq_true rfl), (Nat.le_of_ble_eq_true rfl)⟩ dL_save_4 (fun ce q9 H locs hR hS h3 h4 h5 => ?_)
      refine te_catch (c0 := 3) X htab [] [] (0, 9, 12, 28) rfl (by decide) (by decide) (fun z hz => nomatch hz) (by decide) (by decide) wL_save_k28 h3 h4 h5 ?_
      refine lv_astore_n (lv' := [(3, .ref q9), (0, .ref (ad 360)), (1, .int x1), (2, .ref (ad 379))]) hx hb dL_save_12 rfl hl (by decide) rfl (fun ls hl => ?_)
      refine lv_iconst (v := (1 : Int32)) hx hb dL_save_13 (by decide) ?_
      exact eLx X hR hS (Option.some.inj hf) (Nat.le_of_ble_eq_true rfl) (Nat.le_of_ble_eq_true rfl) dL_save_14
    replace hf := ite_f c_4 hf
    exact nomatch hf
  · refine kVqr (id := 360) (As := [.int x1]) (rest := [.int (0 : Int32), .ref (ad 379)]) X hR hS (zcX5_save l D cy ad ba O S x1 hl0 _ hq_2) (cwV 1 X.2.2.2.2.2.1 gL_save_X5_save rfl rfl rfl kdX5_save ⟨(Nat.le_of_ble_eq_true rfl), (Nat.le_of_ble_eq_true rfl)⟩) (by decide) rfl rfl rfl rfl hl.1 (Nat.le_of_ble_eq_true rfl) ⟨(Nat.le_of_ble_eq_true rfl), (Nat.le_of_ble_eq_true rfl)⟩ dL_save_4 (fun H locs hR hS => ?_)
    refine lv_i2l hx hb dL_save_7 rfl ?_
    refine te_last X hR hS dL_save_8 (fun H locs hR hS => ?_)
    refine lv_goto (tgt := 15) hx hb dL_save_9 (by decide) ?_
    refine lv_iconst (v := (0 : Int32)) hx hb dL_save_15 (by decide) ?_
    exact eLx X hR hS (Option.some.inj hf) (Nat.le_of_ble_eq_true rfl) (Nat.le_of_ble_eq_true rfl) dL_save_16
theorem zcL_save (l : Launch) (D : va_G) (cy : Nat → ClassId) (ad : Nat → Nat) (ba : Nat) (O : Int64) (S : teS) (x1 : Int32) (hl0 : l.stackTraces = false) (res : (Int32 × (Int64 × teS))) (hf : fL_save x1 S O = some res) : lI l yL_save wsL_save rmL_save 1 6 D cy ad ba O S [.ref (ad 360), .int x1, .ref (ad 379)] res :=
  te_ofh (hh := [(0, 9, 12, 28)]) (by decide) rfl (Nat.le_of_ble_eq_true rfl) (fun p e s m below meth c ls X htab hR hS hl => bL_save_0 (S := S) (x1 := x1) X htab hl0 _ _ _ hR hS hl hf)
abbrev rmL_restore : Room := { frames := 8, cells := 2, slots := 12, locals := 131 }
theorem kdL_restore : yL_restore.cls = RL ∧ yL_restore.cls ≠ "java/lang/invoke/MethodHandle" ∧ yL_restore.cls ≠ "java/lang/invoke/VarHandle" ∧ (parseMethodDescriptor yL_restore.desc).map (fun d => d.parameters.length) = some 3 := by decide +kernel
theorem wL_restore_k28 : Cond.classLink RL 28 "java/lang/IndexOutOfBoundsException" ∈ wsL_restore := by decide +kernel
theorem wL_restore_k15 : Cond.classLink RL 15 "java/lang/IllegalStateException" ∈ wsL_restore := by decide +kernel
set_option maxRecDepth 100000 in
set_option maxHeartbeats 4000000 in
theorem bL_restore_0 {p : Program} {l : Launch} {e : Env} {s : State} {m : MethodId} {args : Array Value} {below : List Frame} {meth : Method} {c : Code} {D : va_G} {cy : Nat → ClassId} {ad : Nat → Nat} {ba : Nat} {O : Int64} {S : teS}  {x1 : Int32} {res : (Int32 × (Int64 × teS))} (X : teC wsL_restore RL cL_restore 4 (some .int) D cy ba p s m args meth c) (htab : c.exceptionTable.toList = tableOf [(0, 9, 12, 28), (0, 9, 15, 15)]) (hl0 : l.stackTraces = false) (H : Heap) (locs : List Loc) (ls : Array Slot) (hR : teR D cy ad ba O S H) (hS : va_S (teA ba) s.heap H locs) (hl : lv_has ls 4 [(0, .ref (ad 360)), (1, .int x1), (2, .ref (ad 379))]) (hf : fL_restore x1 S O = some res) : W p l e (headSpec wsL_restore rmL_restore).room s m args below meth c H locs 0 0 (vx_MQ below (va_Qi (fun a (u : Int64 × teS) => a = res.1 ∧ u = res.2) (fun u t => teR D cy ad ba u.1 u.2 t.heap) (teA ba)) (vx_X (fun _ : Unit => False) (fun _ _ _ => True) (teA ba)) args s 2 12 (teA ba)) (F0 m 0 ls []) := by
  have hx := X.1
  have hb := X.2.1
  have hown := X.2.2.2.2.1
  unfold fL_restore at hf
  refine lv_aload_n hx hb dL_restore_0 rfl (lv_at hl 2 rfl) ?_
  refine lv_iconst (v := (0 : Int32)) hx hb dL_restore_1 (by decide) ?_
  refine lv_aload_n hx hb dL_restore_2 rfl (lv_at hl 0 rfl) ?_
  refine lv_iload_n hx hb dL_restore_3 rfl (lv_at hl 1 rfl) ?_
  rcases bxw_some hf with ⟨e_1, hq_2, hf⟩ | ⟨r_3, S1, hq_2, hf⟩
  · by_cases c_4 : e_1 = 3
    · subst c_4
      replace hf := ite_t rfl hf
      refine kVql (id := 360) (As := [.int x1]) (rest := [.int (0 : Int32), .ref (ad 379)]) X hR hS (zcX5_restore l D cy ad ba O S x1 hl0 _ hq_2) (cwV 1 X.2.2.2.2.2.1 gL_restore_X5_restore rfl rfl rfl kdX5_restore ⟨(Nat.le_of_ble_eq_true rfl), (Nat.le_of_ble_eq_true rfl)⟩) (by decide) rfl rfl rfl rfl hl.1 (Nat.le_of_ble_eq_true rfl) ⟨(Nat.le_of_ble_eq_true rfl), (Nat.le_of_ble_eq_true rfl)⟩ dL_restore_4 (fun ce q9 H locs hR hS h3 h4 h5 => ?_)
      refine te_catch (c0 := 3) X htab [] [(0, 9, 15, 15)] (0, 9, 12, 28) rfl (by decide) (by decide) (fun z hz => nomatch hz) (by decide) (by decide) wL_restore_k28 h3 h4 h5 ?_
      refine lv_astore_n (lv' := [(3, .ref q9), (0, .ref (ad 360)), (1, .int x1), (2, .ref (ad 379))]) hx hb dL_restore_12 rfl hl (by decide) rfl (fun ls hl => ?_)
      refine lv_iconst (v := (1 : Int32)) hx hb dL_restore_13 (by decide) ?_
      exact eLx X hR hS (Option.some.inj hf) (Nat.le_of_ble_eq_true rfl) (Nat.le_of_ble_eq_true rfl) dL_restore_14
    replace hf := ite_f c_4 hf
    by_cases c_5 : e_1 = 2
    · subst c_5
      replace hf := ite_t rfl hf
      refine kVql (id := 360) (As := [.int x1]) (rest := [.int (0 : Int32), .ref (ad 379)]) X hR hS (zcX5_restore l D cy ad ba O S x1 hl0 _ hq_2) (cwV 1 X.2.2.2.2.2.1 gL_restore_X5_restore rfl rfl rfl kdX5_restore ⟨(Nat.le_of_ble_eq_true rfl), (Nat.le_of_ble_eq_true rfl)⟩) (by decide) rfl rfl rfl rfl hl.1 (Nat.le_of_ble_eq_true rfl) ⟨(Nat.le_of_ble_eq_true rfl), (Nat.le_of_ble_eq_true rfl)⟩ dL_restore_4 (fun ce q9 H locs hR hS h3 h4 h5 => ?_)
      refine te_catch (c0 := 2) X htab [(0, 9, 12, 28)] [] (0, 9, 15, 15) rfl (by decide) (by decide) (List.forall_mem_cons.mpr ⟨⟨by decide, 3, by decide, by decide, by decide, wL_restore_k28⟩, fun z hz => nomatch hz⟩) (by decide) (by decide) wL_restore_k15 h3 h4 h5 ?_
      refine lv_astore_n (lv' := [(3, .ref q9), (0, .ref (ad 360)), (1, .int x1), (2, .ref (ad 379))]) hx hb dL_restore_15 rfl hl (by decide) rfl (fun ls hl => ?_)
      refine lv_iconst (v := (2 : Int32)) hx hb dL_restore_16 (by decide) ?_
      exact eLx X hR hS (Option.some.inj hf) (Nat.le_of_ble_eq_true rfl) (Nat.le_of_ble_eq_true rfl) dL_restore_17
    replace hf := ite_f c_5 hf
    exact nomatch hf
  · refine kVqr (id := 360) (As := [.int x1]) (rest := [.int (0 : Int32), .ref (ad 379)]) X hR hS (zcX5_restore l D cy ad ba O S x1 hl0 _ hq_2) (cwV 1 X.2.2.2.2.2.1 gL_restore_X5_restore rfl rfl rfl kdX5_restore ⟨(Nat.le_of_ble_eq_true rfl), (Nat.le_of_ble_eq_true rfl)⟩) (by decide) rfl rfl rfl rfl hl.1 (Nat.le_of_ble_eq_true rfl) ⟨(Nat.le_of_ble_eq_true rfl), (Nat.le_of_ble_eq_true rfl)⟩ dL_restore_4 (fun H locs hR hS => ?_)
    refine lv_i2l hx hb dL_restore_7 rfl ?_
    refine te_last X hR hS dL_restore_8 (fun H locs hR hS => ?_)
    refine lv_goto (tgt := 18) hx hb dL_restore_9 (by decide) ?_
    refine lv_iconst (v := (0 : Int32)) hx hb dL_restore_18 (by decide) ?_
    exact eLx X hR hS (Option.some.inj hf) (Nat.le_of_ble_eq_true rfl) (Nat.le_of_ble_eq_true rfl) dL_restore_19
theorem zcL_restore (l : Launch) (D : va_G) (cy : Nat → ClassId) (ad : Nat → Nat) (ba : Nat) (O : Int64) (S : teS) (x1 : Int32) (hl0 : l.stackTraces = false) (res : (Int32 × (Int64 × teS))) (hf : fL_restore x1 S O = some res) : lI l yL_restore wsL_restore rmL_restore 2 12 D cy ad ba O S [.ref (ad 360), .int x1, .ref (ad 379)] res :=
  te_ofh (hh := [(0, 9, 12, 28), (0, 9, 15, 15)]) (by decide) rfl (Nat.le_of_ble_eq_true rfl) (fun p e s m below meth c ls X htab hR hS hl => bL_restore_0 (S := S) (x1 := x1) X htab hl0 _ _ _ hR hS hl hf)
abbrev rmL_law : Room := { frames := 10, cells := 0, slots := 0, locals := 212 }
theorem wL_law_186 : Cond.constantLong RL 186 (4294967295) ∈ wsL_law := by decide +kernel
set_option maxRecDepth 100000 in
set_option maxHeartbeats 4000000 in
theorem bL_law_1848 {p : Program} {l : Launch} {e : Env} {s : State} {m : MethodId} {below : List Frame} {meth : Method} {c : Code} {D : va_G} {cy : Nat → ClassId} {ad : Nat → Nat} {ba : Nat} {b : Nat} {S : teS}  {xs : Nat → Int32} {L : Nat}  (X : teC wsL_law RL cL_law 7 ret D cy ba p s m #[Value.ref b] meth c) (hl0 : l.stackTraces = false) (hX : va_X b L xs s s.heap) (hbl : b < s.heap.size) (hbA : ¬ teA ba b) (hba : s.heap.size ≤ ba) {nn : Nat} {q23 : teS → Int64 → Int32 → Option Int32} (hq23 : ∀ (S1 : teS) (O1 : Int64) (v4 : Int32) (H : Heap) (locs : List Loc) (ls : Array Slot) (ce sl : Nat), ce + 8 * nn ≤ 601024 → sl + 64 * nn ≤ 7293034 → teR D cy ad ba O1 S1 H → va_S (teA ba) s.heap H locs → lv_has ls 7 [(0, .ref b), (1, .ref (ad 360)), (2, .ref (ad 369)), (3, .ref (ad 379)), (4, .int v4)] → q23 S1 O1 v4 = some 1 → W p l e room_1 s m #[Value.ref b] below meth c H locs ce sl (lw_Z below #[Value.ref b] s) (F0 m 23 ls [])) : ∀ (S1 : teS) (O1 : Int64) (v4 : Int32) (H : Heap) (locs : List Loc) (ls : Array Slot) (ce sl : Nat), ce + 8 * nn ≤ 601024 → sl + 64 * nn ≤ 7293034 → teR D cy ad ba O1 S1 H → va_S (teA ba) s.heap H locs → lv_has ls 7 [(0, .ref b), (1, .ref (ad 360)), (2, .ref (ad 369)), (3, .ref (ad 379)), (4, .int v4)] → fL_law_1848 xs L q23 S1 O1 v4 = some 1 → W p l e room_1 s m #[Value.ref b] below meth c H locs ce sl (lw_Z below #[Value.ref b] s) (F0 m 1848 ls []) := by
  have hx := X.1
  have hb := X.2.1
  have hown := X.2.2.2.2.1
  intro S1 O1 v4 H locs ls ce sl hb1 hb2 hR hS hl hf
  unfold fL_law_1848 at hf
  refine lv_iinc (v := (v4 + (5 : Int32))) (lv' := [(4, .int (v4 + (5 : Int32))), (0, .ref b), (1, .ref (ad 360)), (2, .ref (ad 369)), (3, .ref (ad 379))]) hx hb dL_law_1848 hl (k := 4) rfl rfl (by decide) rfl (fun ls hl => ?_)
  refine lv_goto (tgt := 23) hx hb dL_law_1851 (by decide) ?_
  exact hq23 S1 O1 ((v4 + (5 : Int32))) _ _ _ _ _ (by omega) (by omega) hR hS (lv_sub hl [1, 2, 3, 4, 0] rfl) hf
set_option maxRecDepth 100000 in
set_option maxHeartbeats 4000000 in
theorem bL_law_1119 {p : Program} {l : Launch} {e : Env} {s : State} {m : MethodId} {below : List Frame} {meth : Method} {c : Code} {D : va_G} {cy : Nat → ClassId} {ad : Nat → Nat} {ba : Nat} {b : Nat} {S : teS}  {xs : Nat → Int32} {L : Nat}  (X : teC wsL_law RL cL_law 7 ret D cy ba p s m #[Value.ref b] meth c) (hl0 : l.stackTraces = false) (hX : va_X b L xs s s.heap) (hbl : b < s.heap.size) (hbA : ¬ teA ba b) (hba : s.heap.size ≤ ba) {nn : Nat} {q23 : teS → Int64 → Int32 → Option Int32} (hq23 : ∀ (S1 : teS) (O1 : Int64) (v4 : Int32) (H : Heap) (locs : List Loc) (ls : Array Slot) (ce sl : Nat), ce + 8 * nn ≤ 601024 → sl + 64 * nn ≤ 7293034 → teR D cy ad ba O1 S1 H → va_S (teA ba) s.heap H locs → lv_has ls 7 [(0, .ref b), (1, .ref (ad 360)), (2, .ref (ad 369)), (3, .ref (ad 379)), (4, .int v4)] → q23 S1 O1 v4 = some 1 → W p l e room_1 s m #[Value.ref b] below meth c H locs ce sl (lw_Z below #[Value.ref b] s) (F0 m 23 ls [])) : ∀ (S1 : teS) (O1 : Int64) (v4 : Int32) (v5 : Int32) (y0 : Int32) (y1 : Int32) (H : Heap) (locs : List Loc) (ls : Array Slot) (ce sl : Nat), ce + 8 * nn + 2 ≤ 601024 → sl + 64 * nn + 16 ≤ 7293034 → teR D cy ad ba O1 S1 H → va_S (teA ba) s.heap H locs → lv_has ls 7 [(0, .ref b), (1, .ref (ad 360)), (2, .ref (ad 369)), (3, .ref (ad 379)), (4, .int v4), (5, .int v5)] → fL_law_1119 xs L q23 S1 O1 v4 v5 y0 y1 = some 1 → W p l e room_1 s m #[Value.ref b] below meth c H locs ce sl (lw_Z below #[Value.ref b] s) (F0 m 1119 ls [.int y0, .int y1, .ref (ad 369)]) := by
  have hx := X.1
  have hb := X.2.1
  have hown := X.2.2.2.2.1
  intro S1 O1 v4 v5 y0 y1 H locs ls ce sl hb1 hb2 hR hS hl hf
  unfold fL_law_1119 at hf
  obtain ⟨r_303, S2, hq_304, hf⟩ := bd2_some hf
  refine kVi (id := 369) (As := [.int y1, .int y0]) (rest := []) X hR hS (zcX6_blocking l D cy ad ba O1 S1 y1 y0 _ _ hq_304) (cwV 2 X.2.2.2.2.2.1 gL_law_X6_blocking rfl rfl rfl kdX6_blocking ⟨(Nat.le_of_ble_eq_true rfl), (Nat.le_of_ble_eq_true rfl)⟩) (by decide) rfl rfl rfl rfl hl.1 (Nat.le_of_ble_eq_true rfl) ⟨by show _ ≤ 601024; omega, by show _ ≤ 7293034; omega⟩ dL_law_1119 (fun H locs hR hS => ?_)
  refine lv_istore (lv' := [(6, .int r_303), (0, .ref b), (1, .ref (ad 360)), (2, .ref (ad 369)), (3, .ref (ad 379)), (4, .int v4), (5, .int v5)]) hx hb dL_law_1122 hl (by decide) rfl (fun ls hl => ?_)
  refine lv_aload_n hx hb dL_law_1124 rfl (lv_at hl 3 rfl) ?_
  obtain ⟨r_305, hq_306, hf⟩ := bd1_some hf
  refine kVi (id := 369) (As := []) (rest := []) X hR hS (zcX6_thrown l D cy ad ba O1 S2 _ hq_306) (cwV 0 X.2.2.2.2.2.1 gL_law_X6_thrown rfl rfl rfl kdX6_thrown ⟨(Nat.le_of_ble_eq_true rfl), (Nat.le_of_ble_eq_true rfl)⟩) (by decide) rfl rfl rfl rfl hl.1 (Nat.le_of_ble_eq_true rfl) ⟨by show _ ≤ 601024; omega, by show _ ≤ 7293034; omega⟩ dL_law_1125 (fun H locs hR hS => ?_)
  refine lv_iload hx hb dL_law_1128 (lv_at hl 6 rfl) ?_
  refine lv_icmp_eq (tgt := 1135) hx hb dL_law_1130 (by decide) (fun c_307 => ?_) (fun c_307 => ?_)
  · replace hf := ite_t c_307 hf
    refine lv_iload hx hb dL_law_1135 (lv_at hl 6 rfl) ?_
    refine lv_if_ne (tgt := 1152) hx hb dL_law_1137 (by decide) (fun c_308 => ?_) (fun c_308 => ?_)
    · replace hf := ite_f c_308 hf
      refine lv_goto (tgt := 1848) hx hb dL_law_1152 (by decide) ?_
      exact bL_law_1848 (S := S) (xs := xs) (L := L) X hl0 hX hbl hbA hba (nn := _) hq23 S2 O1 (v4) _ _ _ _ _ (by omega) (by omega) hR hS (lv_sub hl [1, 2, 3, 4, 5] rfl) hf
    · replace hf := ite_t c_308 hf
      refine lv_aload_n hx hb dL_law_1140 rfl (lv_at hl 4 rfl) ?_
      refine lv_iconst (v := (0 : Int32)) hx hb dL_law_1141 (by decide) ?_
      refine te_lald X hR dL_law_1142 ?_
      refine lv_iload hx hb dL_law_1143 (lv_at hl 0 rfl) ?_
      refine lv_i2l hx hb dL_law_1145 rfl ?_
      refine W.lcmp hx hb dL_law_1146 ?_
      refine lv_if_eq (tgt := 1152) hx hb dL_law_1147 (by decide) (fun c_309 => ?_) (fun c_309 => ?_)
      · replace hf := ite_t c_309 hf
        refine lv_goto (tgt := 1848) hx hb dL_law_1152 (by decide) ?_
        exact bL_law_1848 (S := S) (xs := xs) (L := L) X hl0 hX hbl hbA hba (nn := _) hq23 S2 O1 (v4) _ _ _ _ _ (by omega) (by omega) hR hS (lv_sub hl [1, 2, 3, 4, 5] rfl) hf
      · replace hf := ite_f c_309 hf
        refine lv_iconst (v := (0 : Int32)) hx hb dL_law_1150 (by decide) ?_
        exact absurd (Option.some.inj hf) (by decide)
  · replace hf := ite_f c_307 hf
    refine lv_iconst (v := (0 : Int32)) hx hb dL_law_1133 (by decide) ?_
    exact absurd (Option.some.inj hf) (by decide)
set_option maxRecDepth 100000 in
set_option maxHeartbeats 4000000 in
theorem bL_law_1092 {p : Program} {l : Launch} {e : Env} {s : State} {m : MethodId} {below : List Frame} {meth : Method} {c : Code} {D : va_G} {cy : Nat → ClassId} {ad : Nat → Nat} {ba : Nat} {b : Nat} {S : teS}  {xs : Nat → Int32} {L : Nat}  (X : teC wsL_law RL cL_law 7 ret D cy ba p s m #[Value.ref b] meth c) (hl0 : l.stackTraces = false) (hX : va_X b L xs s s.heap) (hbl : b < s.heap.size) (hbA : ¬ teA ba b) (hba : s.heap.size ≤ ba) {nn : Nat} {q23 : teS → Int64 → Int32 → Option Int32} (hq23 : ∀ (S1 : teS) (O1 : Int64) (v4 : Int32) (H : Heap) (locs : List Loc) (ls : Array Slot) (ce sl : Nat), ce + 8 * nn ≤ 601024 → sl + 64 * nn ≤ 7293034 → teR D cy ad ba O1 S1 H → va_S (teA ba) s.heap H locs → lv_has ls 7 [(0, .ref b), (1, .ref (ad 360)), (2, .ref (ad 369)), (3, .ref (ad 379)), (4, .int v4)] → q23 S1 O1 v4 = some 1 → W p l e room_1 s m #[Value.ref b] below meth c H locs ce sl (lw_Z below #[Value.ref b] s) (F0 m 23 ls [])) : ∀ (S1 : teS) (O1 : Int64) (v4 : Int32) (y0 : Int32) (y1 : Int32) (H : Heap) (locs : List Loc) (ls : Array Slot) (ce sl : Nat), ce + 8 * nn + 4 ≤ 601024 → sl + 64 * nn + 32 ≤ 7293034 → teR D cy ad ba O1 S1 H → va_S (teA ba) s.heap H locs → lv_has ls 7 [(0, .ref b), (1, .ref (ad 360)), (2, .ref (ad 369)), (3, .ref (ad 379)), (4, .int v4)] → fL_law_1092 xs L q23 S1 O1 v4 y0 y1 = some 1 → W p l e room_1 s m #[Value.ref b] below meth c H locs ce sl (lw_Z below #[Value.ref b] s) (F0 m 1092 ls [.int y0, .int y1, .ref (ad 360)]) := by
  have hx := X.1
  have hb := X.2.1
  have hown := X.2.2.2.2.1
  intro S1 O1 v4 y0 y1 H locs ls ce sl hb1 hb2 hR hS hl hf
  unfold fL_law_1092 at hf
  refine lv_aload_n hx hb dL_law_1092 rfl (lv_at hl 3 rfl) ?_
  obtain ⟨r_293, O2, S2, hq_294, hf⟩ := bd3_some hf
  refine kLw (As := [.ref (ad 360), .int y1, .int y0, .ref (ad 379)]) (rest := []) X hR hS (zcL_blocking l D cy ad ba O1 S1 y1 y0 hl0 _ hq_294) (vx_cwSW (hh := [(0, 10, 13, 13)]) 4 X.2.2.2.2.2.1 gL_law_L_blocking rfl rfl rfl kdL_blocking.2 ⟨(Nat.le_of_ble_eq_true rfl), (Nat.le_of_ble_eq_true rfl)⟩) rfl rfl hl.1 (Nat.le_of_ble_eq_true rfl) ⟨by show _ ≤ 601024; omega, by show _ ≤ 7293034; omega⟩ dL_law_1093 (fun H locs hR hS => ?_)
  refine lv_istore (lv' := [(5, .int r_293), (0, .ref b), (1, .ref (ad 360)), (2, .ref (ad 369)), (3, .ref (ad 379)), (4, .int v4)]) hx hb dL_law_1096 hl (by decide) rfl (fun ls hl => ?_)
  refine lv_aload_n hx hb dL_law_1098 rfl (lv_at hl 3 rfl) ?_
  refine lv_aload_n hx hb dL_law_1099 rfl (lv_at hl 1 rfl) ?_
  refine lv_iload hx hb dL_law_1100 (lv_at hl 5 rfl) ?_
  refine lv_iconst (v := (1 : Int32)) hx hb dL_law_1102 (by decide) ?_
  refine lv_iadd hx hb dL_law_1103 ?_
  obtain ⟨h_295, hf⟩ := chk_some hf
  refine va_sld hx hb hX hbl hbA hS (tein_in h_295) dL_law_1104 ?_
  refine lv_aload_n hx hb dL_law_1105 rfl (lv_at hl 1 rfl) ?_
  refine lv_iload hx hb dL_law_1106 (lv_at hl 5 rfl) ?_
  refine lv_iconst (v := (2 : Int32)) hx hb dL_law_1108 (by decide) ?_
  refine lv_iadd hx hb dL_law_1109 ?_
  obtain ⟨h_296, hf⟩ := chk_some hf
  refine va_sld hx hb hX hbl hbA hS (tein_in h_296) dL_law_1110 ?_
  refine lv_if_eq (tgt := 1118) hx hb dL_law_1111 (by decide) (fun c_297 => ?_) (fun c_297 => ?_)
  · replace hf := ite_t c_297 hf
    refine lv_iconst (v := (0 : Int32)) hx hb dL_law_1118 (by decide) ?_
    exact bL_law_1119 (S := S) (xs := xs) (L := L) X hl0 hX hbl hbA hba (nn := _) hq23 S2 O2 (v4) (r_293) ((0 : Int32)) ((xs (v4 + (1 : Int32)).toNatClampNeg)) _ _ _ _ _ (by omega) (by omega) hR hS (lv_sub hl [1, 2, 3, 4, 5, 0] rfl) hf
  · replace hf := ite_f c_297 hf
    refine lv_iconst (v := (1 : Int32)) hx hb dL_law_1114 (by decide) ?_
    refine lv_goto (tgt := 1119) hx hb dL_law_1115 (by decide) ?_
    exact bL_law_1119 (S := S) (xs := xs) (L := L) X hl0 hX hbl hbA hba (nn := _) hq23 S2 O2 (v4) (r_293) ((1 : Int32)) ((xs (v4 + (1 : Int32)).toNatClampNeg)) _ _ _ _ _ (by omega) (by omega) hR hS (lv_sub hl [1, 2, 3, 4, 5, 0] rfl) hf
set_option maxRecDepth 100000 in
set_option maxHeartbeats 4000000 in
theorem bL_law_1203 {p : Program} {l : Launch} {e : Env} {s : State} {m : MethodId} {below : List Frame} {meth : Method} {c : Code} {D : va_G} {cy : Nat → ClassId} {ad : Nat → Nat} {ba : Nat} {b : Nat} {S : teS}  {xs : Nat → Int32} {L : Nat}  (X : teC wsL_law RL cL_law 7 ret D cy ba p s m #[Value.ref b] meth c) (hl0 : l.stackTraces = false) (hX : va_X b L xs s s.heap) (hbl : b < s.heap.size) (hbA : ¬ teA ba b) (hba : s.heap.size ≤ ba) {nn : Nat} {q23 : teS → Int64 → Int32 → Option Int32} (hq23 : ∀ (S1 : teS) (O1 : Int64) (v4 : Int32) (H : Heap) (locs : List Loc) (ls : Array Slot) (ce sl : Nat), ce + 8 * nn ≤ 601024 → sl + 64 * nn ≤ 7293034 → teR D cy ad ba O1 S1 H → va_S (teA ba) s.heap H locs → lv_has ls 7 [(0, .ref b), (1, .ref (ad 360)), (2, .ref (ad 369)), (3, .ref (ad 379)), (4, .int v4)] → q23 S1 O1 v4 = some 1 → W p l e room_1 s m #[Value.ref b] below meth c H locs ce sl (lw_Z below #[Value.ref b] s) (F0 m 23 ls [])) : ∀ (S1 : teS) (O1 : Int64) (v4 : Int32) (v5 : Int32) (y0 : Int32) (y1 : Int32) (H : Heap) (locs : List Loc) (ls : Array Slot) (ce sl : Nat), ce + 8 * nn + 2 ≤ 601024 → sl + 64 * nn + 16 ≤ 7293034 → teR D cy ad ba O1 S1 H → va_S (teA ba) s.heap H locs → lv_has ls 7 [(0, .ref b), (1, .ref (ad 360)), (2, .ref (ad 369)), (3, .ref (ad 379)), (4, .int v4), (5, .int v5)] → fL_law_1203 xs L q23 S1 O1 v4 v5 y0 y1 = some 1 → W p l e room_1 s m #[Value.ref b] below meth c H locs ce sl (lw_Z below #[Value.ref b] s) (F0 m 1203 ls [.int y0, .int y1, .ref (ad 369)]) := by
  have hx := X.1
  have hb := X.2.1
  have hown := X.2.2.2.2.1
  intro S1 O1 v4 v5 y0 y1 H locs ls ce sl hb1 hb2 hR hS hl hf
  unfold fL_law_1203 at hf
  obtain ⟨r_310, S2, hq_311, hf⟩ := bd2_some hf
  refine kVi (id := 369) (As := [.int y1, .int y0]) (rest := []) X hR hS (zcX6_bestPartner l D cy ad ba O1 S1 y1 y0 _ _ hq_311) (cwV 2 X.2.2.2.2.2.1 gL_law_X6_bestPartner rfl rfl rfl kdX6_bestPartner ⟨(Nat.le_of_ble_eq_true rfl), (Nat.le_of_ble_eq_true rfl)⟩) (by decide) rfl rfl rfl rfl hl.1 (Nat.le_of_ble_eq_true rfl) ⟨by show _ ≤ 601024; omega, by show _ ≤ 7293034; omega⟩ dL_law_1203 (fun H locs hR hS => ?_)
  refine lv_istore (lv' := [(6, .int r_310), (0, .ref b), (1, .ref (ad 360)), (2, .ref (ad 369)), (3, .ref (ad 379)), (4, .int v4), (5, .int v5)]) hx hb dL_law_1206 hl (by decide) rfl (fun ls hl => ?_)
  refine lv_aload_n hx hb dL_law_1208 rfl (lv_at hl 3 rfl) ?_
  obtain ⟨r_312, hq_313, hf⟩ := bd1_some hf
  refine kVi (id := 369) (As := []) (rest := []) X hR hS (zcX6_thrown l D cy ad ba O1 S2 _ hq_313) (cwV 0 X.2.2.2.2.2.1 gL_law_X6_thrown rfl rfl rfl kdX6_thrown ⟨(Nat.le_of_ble_eq_true rfl), (Nat.le_of_ble_eq_true rfl)⟩) (by decide) rfl rfl rfl rfl hl.1 (Nat.le_of_ble_eq_true rfl) ⟨by show _ ≤ 601024; omega, by show _ ≤ 7293034; omega⟩ dL_law_1209 (fun H locs hR hS => ?_)
  refine lv_iload hx hb dL_law_1212 (lv_at hl 6 rfl) ?_
  refine lv_icmp_eq (tgt := 1219) hx hb dL_law_1214 (by decide) (fun c_314 => ?_) (fun c_314 => ?_)
  · replace hf := ite_t c_314 hf
    refine lv_iload hx hb dL_law_1219 (lv_at hl 6 rfl) ?_
    refine lv_if_ne (tgt := 1236) hx hb dL_law_1221 (by decide) (fun c_315 => ?_) (fun c_315 => ?_)
    · replace hf := ite_f c_315 hf
      refine lv_goto (tgt := 1848) hx hb dL_law_1236 (by decide) ?_
      exact bL_law_1848 (S := S) (xs := xs) (L := L) X hl0 hX hbl hbA hba (nn := _) hq23 S2 O1 (v4) _ _ _ _ _ (by omega) (by omega) hR hS (lv_sub hl [1, 2, 3, 4, 5] rfl) hf
    · replace hf := ite_t c_315 hf
      refine lv_aload_n hx hb dL_law_1224 rfl (lv_at hl 4 rfl) ?_
      refine lv_iconst (v := (0 : Int32)) hx hb dL_law_1225 (by decide) ?_
      refine te_lald X hR dL_law_1226 ?_
      refine lv_iload hx hb dL_law_1227 (lv_at hl 0 rfl) ?_
      refine lv_i2l hx hb dL_law_1229 rfl ?_
      refine W.lcmp hx hb dL_law_1230 ?_
      refine lv_if_eq (tgt := 1236) hx hb dL_law_1231 (by decide) (fun c_316 => ?_) (fun c_316 => ?_)
      · replace hf := ite_t c_316 hf
        refine lv_goto (tgt := 1848) hx hb dL_law_1236 (by decide) ?_
        exact bL_law_1848 (S := S) (xs := xs) (L := L) X hl0 hX hbl hbA hba (nn := _) hq23 S2 O1 (v4) _ _ _ _ _ (by omega) (by omega) hR hS (lv_sub hl [1, 2, 3, 4, 5] rfl) hf
      · replace hf := ite_f c_316 hf
        refine lv_iconst (v := (0 : Int32)) hx hb dL_law_1234 (by decide) ?_
        exact absurd (Option.some.inj hf) (by decide)
  · replace hf := ite_f c_314 hf
    refine lv_iconst (v := (0 : Int32)) hx hb dL_law_1217 (by decide) ?_
    exact absurd (Option.some.inj hf) (by decide)
set_option maxRecDepth 100000 in
set_option maxHeartbeats 4000000 in
theorem bL_law_1176 {p : Program} {l : Launch} {e : Env} {s : State} {m : MethodId} {below : List Frame} {meth : Method} {c : Code} {D : va_G} {cy : Nat → ClassId} {ad : Nat → Nat} {ba : Nat} {b : Nat} {S : teS}  {xs : Nat → Int32} {L : Nat}  (X : teC wsL_law RL cL_law 7 ret D cy ba p s m #[Value.ref b] meth c) (hl0 : l.stackTraces = false) (hX : va_X b L xs s s.heap) (hbl : b < s.heap.size) (hbA : ¬ teA ba b) (hba : s.heap.size ≤ ba) {nn : Nat} {q23 : teS → Int64 → Int32 → Option Int32} (hq23 : ∀ (S1 : teS) (O1 : Int64) (v4 : Int32) (H : Heap) (locs : List Loc) (ls : Array Slot) (ce sl : Nat), ce + 8 * nn ≤ 601024 → sl + 64 * nn ≤ 7293034 → teR D cy ad ba O1 S1 H → va_S (teA ba) s.heap H locs → lv_has ls 7 [(0, .ref b), (1, .ref (ad 360)), (2, .ref (ad 369)), (3, .ref (ad 379)), (4, .int v4)] → q23 S1 O1 v4 = some 1 → W p l e room_1 s m #[Value.ref b] below meth c H locs ce sl (lw_Z below #[Value.ref b] s) (F0 m 23 ls [])) : ∀ (S1 : teS) (O1 : Int64) (v4 : Int32) (y0 : Int32) (y1 : Int32) (H : Heap) (locs : List Loc) (ls : Array Slot) (ce sl : Nat), ce + 8 * nn + 4 ≤ 601024 → sl + 64 * nn + 32 ≤ 7293034 → teR D cy ad ba O1 S1 H → va_S (teA ba) s.heap H locs → lv_has ls 7 [(0, .ref b), (1, .ref (ad 360)), (2, .ref (ad 369)), (3, .ref (ad 379)), (4, .int v4)] → fL_law_1176 xs L q23 S1 O1 v4 y0 y1 = some 1 → W p l e room_1 s m #[Value.ref b] below meth c H locs ce sl (lw_Z below #[Value.ref b] s) (F0 m 1176 ls [.int y0, .int y1, .ref (ad 360)]) := by
  have hx := X.1
  have hb := X.2.1
  have hown := X.2.2.2.2.1
  intro S1 O1 v4 y0 y1 H locs ls ce sl hb1 hb2 hR hS hl hf
  unfold fL_law_1176 at hf
  refine lv_aload_n hx hb dL_law_1176 rfl (lv_at hl 3 rfl) ?_
  obtain ⟨r_298, O2, S2, hq_299, hf⟩ := bd3_some hf
  refine kLw (As := [.ref (ad 360), .int y1, .int y0, .ref (ad 379)]) (rest := []) X hR hS (zcL_bestPartner l D cy ad ba O1 S1 y1 y0 hl0 _ hq_299) (vx_cwSW (hh := [(0, 10, 13, 28)]) 4 X.2.2.2.2.2.1 gL_law_L_bestPartner rfl rfl rfl kdL_bestPartner.2 ⟨(Nat.le_of_ble_eq_true rfl), (Nat.le_of_ble_eq_true rfl)⟩) rfl rfl hl.1 (Nat.le_of_ble_eq_true rfl) ⟨by show _ ≤ 601024; omega, by show _ ≤ 7293034; omega⟩ dL_law_1177 (fun H locs hR hS => ?_)
  refine lv_istore (lv' := [(5, .int r_298), (0, .ref b), (1, .ref (ad 360)), (2, .ref (ad 369)), (3, .ref (ad 379)), (4, .int v4)]) hx hb dL_law_1180 hl (by decide) rfl (fun ls hl => ?_)
  refine lv_aload_n hx hb dL_law_1182 rfl (lv_at hl 3 rfl) ?_
  refine lv_aload_n hx hb dL_law_1183 rfl (lv_at hl 1 rfl) ?_
  refine lv_iload hx hb dL_law_1184 (lv_at hl 5 rfl) ?_
  refine lv_iconst (v := (1 : Int32)) hx hb dL_law_1186 (by decide) ?_
  refine lv_iadd hx hb dL_law_1187 ?_
  obtain ⟨h_300, hf⟩ := chk_some hf
  refine va_sld hx hb hX hbl hbA hS (tein_in h_300) dL_law_1188 ?_
  refine lv_aload_n hx hb dL_law_1189 rfl (lv_at hl 1 rfl) ?_
  refine lv_iload hx hb dL_law_1190 (lv_at hl 5 rfl) ?_
  refine lv_iconst (v := (2 : Int32)) hx hb dL_law_1192 (by decide) ?_
  refine lv_iadd hx hb dL_law_1193 ?_
  obtain ⟨h_301, hf⟩ := chk_some hf
  refine va_sld hx hb hX hbl hbA hS (tein_in h_301) dL_law_1194 ?_
  refine lv_if_eq (tgt := 1202) hx hb dL_law_1195 (by decide) (fun c_302 => ?_) (fun c_302 => ?_)
  · replace hf := ite_t c_302 hf
    refine lv_iconst (v := (0 : Int32)) hx hb dL_law_1202 (by decide) ?_
    exact bL_law_1203 (S := S) (xs := xs) (L := L) X hl0 hX hbl hbA hba (nn := _) hq23 S2 O2 (v4) (r_298) ((0 : Int32)) ((xs (v4 + (1 : Int32)).toNatClampNeg)) _ _ _ _ _ (by omega) (by omega) hR hS (lv_sub hl [1, 2, 3, 4, 5, 0] rfl) hf
  · replace hf := ite_f c_302 hf
    refine lv_iconst (v := (1 : Int32)) hx hb dL_law_1198 (by decide) ?_
    refine lv_goto (tgt := 1203) hx hb dL_law_1199 (by decide) ?_
    exact bL_law_1203 (S := S) (xs := xs) (L := L) X hl0 hX hbl hbA hba (nn := _) hq23 S2 O2 (v4) (r_298) ((1 : Int32)) ((xs (v4 + (1 : Int32)).toNatClampNeg)) _ _ _ _ _ (by omega) (by omega) hR hS (lv_sub hl [1, 2, 3, 4, 5, 0] rfl) hf
set_option maxRecDepth 100000 in
set_option maxHeartbeats 4000000 in
theorem bL_law_23 {p : Program} {l : Launch} {e : Env} {s : State} {m : MethodId} {below : List Frame} {meth : Method} {c : Code} {D : va_G} {cy : Nat → ClassId} {ad : Nat → Nat} {ba : Nat} {b : Nat} {S : teS}  {xs : Nat → Int32} {L : Nat}  (X : teC wsL_law RL cL_law 7 ret D cy ba p s m #[Value.ref b] meth c) (hl0 : l.stackTraces = false) (hX : va_X b L xs s s.heap) (hbl : b < s.heap.size) (hbA : ¬ teA ba b) (hba : s.heap.size ≤ ba) {nn : Nat} : ∀ (n : Nat), ∀ (S1 : teS) (O1 : Int64) (v4 : Int32) (H : Heap) (locs : List Loc) (ls : Array Slot) (ce sl : Nat), ce + 8 * n ≤ 601024 → sl + 64 * n ≤ 7293034 → teR D cy ad ba O1 S1 H → va_S (teA ba) s.heap H locs → lv_has ls 7 [(0, .ref b), (1, .ref (ad 360)), (2, .ref (ad 369)), (3, .ref (ad 379)), (4, .int v4)] → fL_law_23 xs L n S1 O1 v4 = some 1 → W p l e room_1 s m #[Value.ref b] below meth c H locs ce sl (lw_Z below #[Value.ref b] s) (F0 m 23 ls []) := by
  have hx := X.1
  have hb := X.2.1
  have hown := X.2.2.2.2.1
  intro n
  induction n with
  | zero =>
    intro S1 O1 v4 H locs ls ce sl hb1 hb2 hR hS hl hf
    exact nomatch hf
  | succ n ih =>
    intro S1 O1 v4 H locs ls ce sl hb1 hb2 hR hS hl hf
    unfold fL_law_23 at hf
    refine lv_iload hx hb dL_law_23 (lv_at hl 4 rfl) ?_
    refine lv_aload_n hx hb dL_law_25 rfl (lv_at hl 0 rfl) ?_
    refine va_slen hx hb hX hbl hbA hS dL_law_26 ?_
    refine lv_iconst (v := (5 : Int32)) hx hb dL_law_27 (by decide) ?_
    refine lv_isub hx hb dL_law_28 ?_
    refine lv_icmp_gt (tgt := 1854) hx hb dL_law_29 (by decide) (fun c_1 => ?_) (fun c_1 => ?_)
    · replace hf := ite_t c_1 hf
      refine lv_iconst (v := (1 : Int32)) hx hb dL_law_1854 (by decide) ?_
      refine va_forget (fun q hq => Nat.le_trans hba (hS.2.2 q hq)) ?_
      refine W.widen (k := 601024) (n := 7293034) (by omega) (by omega) ?_
      exact lw_ret hx hb X.2.2.2.1 X.2.2.2.2.2.2.1 dL_law_1855
    · replace hf := ite_f c_1 hf
      refine lv_aload_n hx hb dL_law_32 rfl (lv_at hl 0 rfl) ?_
      refine lv_iload hx hb dL_law_33 (lv_at hl 4 rfl) ?_
      obtain ⟨h_2, hf⟩ := chk_some hf
      refine va_sld hx hb hX hbl hbA hS (tein_in h_2) dL_law_35 ?_
      refine lv_bipush (v := (31 : Int32)) hx hb dL_law_36 (by decide) ?_
      refine lv_iand hx hb dL_law_38 ?_
      by_cases c_3 : ((xs v4.toNatClampNeg) &&& (31 : Int32)) = (0 : Int32)
      · replace hf := ite_t c_3 hf
        refine lv_tableIn (off := 125) (tgt := 164) hx hb dL_law_39 (by rw [c_3]; decide) (by rw [c_3]; decide) (by rw [c_3]; decide) (by decide) ?_
        refine lv_aload_n hx hb dL_law_164 rfl (lv_at hl 1 rfl) ?_
        refine lv_aload_n hx hb dL_law_165 rfl (lv_at hl 0 rfl) ?_
        refine lv_iload hx hb dL_law_166 (lv_at hl 4 rfl) ?_
        refine lv_iconst (v := (1 : Int32)) hx hb dL_law_168 (by decide) ?_
        refine lv_iadd hx hb dL_law_169 ?_
        obtain ⟨h_4, hf⟩ := chk_some hf
        refine va_sld hx hb hX hbl hbA hS (tein_in h_4) dL_law_170 ?_
        refine lv_aload_n hx hb dL_law_171 rfl (lv_at hl 3 rfl) ?_
        obtain ⟨r_5, O2, S2, hq_6, hf⟩ := bd3_some hf
        refine kLw (As := [.ref (ad 360), .int (xs (v4 + (1 : Int32)).toNatClampNeg), .ref (ad 379)]) (rest := []) X hR hS (zcL_append l D cy ad ba O1 S1 (xs (v4 + (1 : Int32)).toNatClampNeg) hl0 _ hq_6) (vx_cwSW (hh := [(0, 9, 12, 13), (0, 9, 15, 15)]) 3 X.2.2.2.2.2.1 gL_law_L_append rfl rfl rfl kdL_append.2 ⟨(Nat.le_of_ble_eq_true rfl), (Nat.le_of_ble_eq_true rfl)⟩) rfl rfl hl.1 (Nat.le_of_ble_eq_true rfl) ⟨by show _ ≤ 601024; omega, by show _ ≤ 7293034; omega⟩ dL_law_172 (fun H locs hR hS => ?_)
        refine lv_istore (lv' := [(5, .int r_5), (0, .ref b), (1, .ref (ad 360)), (2, .ref (ad 369)), (3, .ref (ad 379)), (4, .int v4)]) hx hb dL_law_175 hl (by decide) rfl (fun ls hl => ?_)
        refine lv_aload_n hx hb dL_law_177 rfl (lv_at hl 3 rfl) ?_
        refine lv_aload_n hx hb dL_law_178 rfl (lv_at hl 1 rfl) ?_
        refine lv_iload hx hb dL_law_179 (lv_at hl 5 rfl) ?_
        refine lv_iconst (v := (1 : Int32)) hx hb dL_law_181 (by decide) ?_
        refine lv_iadd hx hb dL_law_182 ?_
        refine va_sld hx hb hX hbl hbA hS (tein_in h_4) dL_law_183 ?_
        obtain ⟨r_7, S3, hq_8, hf⟩ := bd2_some hf
        refine kVi (id := 369) (As := [.int (xs (v4 + (1 : Int32)).toNatClampNeg)]) (rest := []) X hR hS (zcX6_append l D cy ad ba O2 S2 (xs (v4 + (1 : Int32)).toNatClampNeg) _ _ hq_8) (cwV 1 X.2.2.2.2.2.1 gL_law_X6_append rfl rfl rfl kdX6_append ⟨(Nat.le_of_ble_eq_true rfl), (Nat.le_of_ble_eq_true rfl)⟩) (by decide) rfl rfl rfl rfl hl.1 (Nat.le_of_ble_eq_true rfl) ⟨by show _ ≤ 601024; omega, by show _ ≤ 7293034; omega⟩ dL_law_184 (fun H locs hR hS => ?_)
        refine lv_istore (lv' := [(6, .int r_7), (5, .int r_5), (0, .ref b), (1, .ref (ad 360)), (2, .ref (ad 369)), (3, .ref (ad 379)), (4, .int v4)]) hx hb dL_law_187 hl (by decide) rfl (fun ls hl => ?_)
        refine lv_aload_n hx hb dL_law_189 rfl (lv_at hl 4 rfl) ?_
        obtain ⟨r_9, hq_10, hf⟩ := bd1_some hf
        refine kVi (id := 369) (As := []) (rest := []) X hR hS (zcX6_thrown l D cy ad ba O2 S3 _ hq_10) (cwV 0 X.2.2.2.2.2.1 gL_law_X6_thrown rfl rfl rfl kdX6_thrown ⟨(Nat.le_of_ble_eq_true rfl), (Nat.le_of_ble_eq_true rfl)⟩) (by decide) rfl rfl rfl rfl hl.1 (Nat.le_of_ble_eq_true rfl) ⟨by show _ ≤ 601024; omega, by show _ ≤ 7293034; omega⟩ dL_law_190 (fun H locs hR hS => ?_)
        refine lv_iload hx hb dL_law_193 (lv_at hl 1 rfl) ?_
        refine lv_icmp_eq (tgt := 200) hx hb dL_law_195 (by decide) (fun c_11 => ?_) (fun c_11 => ?_)
        · replace hf := ite_t c_11 hf
          refine lv_iload hx hb dL_law_200 (lv_at hl 1 rfl) ?_
          refine lv_if_ne (tgt := 217) hx hb dL_law_202 (by decide) (fun c_12 => ?_) (fun c_12 => ?_)
          · replace hf := ite_f c_12 hf
            refine lv_goto (tgt := 1848) hx hb dL_law_217 (by decide) ?_
            exact bL_law_1848 (S := S) (xs := xs) (L := L) X hl0 hX hbl hbA hba (nn := _) ih S3 O2 (v4) _ _ _ _ _ (by omega) (by omega) hR hS (lv_sub hl [2, 3, 4, 5, 6] rfl) hf
          · replace hf := ite_t c_12 hf
            refine lv_aload_n hx hb dL_law_205 rfl (lv_at hl 5 rfl) ?_
            refine lv_iconst (v := (0 : Int32)) hx hb dL_law_206 (by decide) ?_
            refine te_lald X hR dL_law_207 ?_
            refine lv_iload hx hb dL_law_208 (lv_at hl 0 rfl) ?_
            refine lv_i2l hx hb dL_law_210 rfl ?_
            refine W.lcmp hx hb dL_law_211 ?_
            refine lv_if_eq (tgt := 217) hx hb dL_law_212 (by decide) (fun c_13 => ?_) (fun c_13 => ?_)
            · replace hf := ite_t c_13 hf
              refine lv_goto (tgt := 1848) hx hb dL_law_217 (by decide) ?_
              exact bL_law_1848 (S := S) (xs := xs) (L := L) X hl0 hX hbl hbA hba (nn := _) ih S3 O2 (v4) _ _ _ _ _ (by omega) (by omega) hR hS (lv_sub hl [2, 3, 4, 5, 6] rfl) hf
            · replace hf := ite_f c_13 hf
              refine lv_iconst (v := (0 : Int32)) hx hb dL_law_215 (by decide) ?_
              exact absurd (Option.some.inj hf) (by decide)
        · replace hf := ite_f c_11 hf
          refine lv_iconst (v := (0 : Int32)) hx hb dL_law_198 (by decide) ?_
          exact absurd (Option.some.inj hf) (by decide)
      replace hf := ite_f c_3 hf
      by_cases c_14 : ((xs v4.toNatClampNeg) &&& (31 : Int32)) = (1 : Int32)
      · replace hf := ite_t c_14 hf
        refine lv_tableIn (off := 181) (tgt := 220) hx hb dL_law_39 (by rw [c_14]; decide) (by rw [c_14]; decide) (by rw [c_14]; decide) (by decide) ?_
        refine lv_aload_n hx hb dL_law_220 rfl (lv_at hl 1 rfl) ?_
        obtain ⟨r_15, S4, hq_16, hf⟩ := bd2_some hf
        refine kVi (id := 360) (As := []) (rest := []) X hR hS (zcX5_clearText l D cy ad ba O1 S1 _ _ hq_16) (cwV 0 X.2.2.2.2.2.1 gL_law_X5_clearText rfl rfl rfl kdX5_clearText ⟨(Nat.le_of_ble_eq_true rfl), (Nat.le_of_ble_eq_true rfl)⟩) (by decide) rfl rfl rfl rfl hl.1 (Nat.le_of_ble_eq_true rfl) ⟨by show _ ≤ 601024; omega, by show _ ≤ 7293034; omega⟩ dL_law_221 (fun H locs hR hS => ?_)
        refine lv_aload_n hx hb dL_law_224 rfl (lv_at hl 2 rfl) ?_
        obtain ⟨r_17, S5, hq_18, hf⟩ := bd2_some hf
        refine kVi (id := 369) (As := []) (rest := [.int r_15]) X hR hS (zcX6_clearText l D cy ad ba O1 S4 _ _ hq_18) (cwV 0 X.2.2.2.2.2.1 gL_law_X6_clearText rfl rfl rfl kdX6_clearText ⟨(Nat.le_of_ble_eq_true rfl), (Nat.le_of_ble_eq_true rfl)⟩) (by decide) rfl rfl rfl rfl hl.1 (Nat.le_of_ble_eq_true rfl) ⟨by show _ ≤ 601024; omega, by show _ ≤ 7293034; omega⟩ dL_law_225 (fun H locs hR hS => ?_)
        refine lv_icmp_eq (tgt := 1848) hx hb dL_law_228 (by decide) (fun c_19 => ?_) (fun c_19 => ?_)
        · replace hf := ite_t c_19 hf
          exact bL_law_1848 (S := S) (xs := xs) (L := L) X hl0 hX hbl hbA hba (nn := _) ih S5 O1 (v4) _ _ _ _ _ (by omega) (by omega) hR hS (lv_sub hl [0, 1, 2, 3, 4] rfl) hf
        · replace hf := ite_f c_19 hf
          refine lv_iconst (v := (0 : Int32)) hx hb dL_law_231 (by decide) ?_
          exact absurd (Option.some.inj hf) (by decide)
      replace hf := ite_f c_14 hf
      by_cases c_20 : ((xs v4.toNatClampNeg) &&& (31 : Int32)) = (2 : Int32)
      · replace hf := ite_t c_20 hf
        refine lv_tableIn (off := 194) (tgt := 233) hx hb dL_law_39 (by rw [c_20]; decide) (by rw [c_20]; decide) (by rw [c_20]; decide) (by decide) ?_
        refine lv_aload_n hx hb dL_law_233 rfl (lv_at hl 1 rfl) ?_
        obtain ⟨r_21, hq_22, hf⟩ := bd1_some hf
        refine kVi (id := 360) (As := []) (rest := []) X hR hS (zcX5_errorPosition l D cy ad ba O1 S1 _ hq_22) (cwV 0 X.2.2.2.2.2.1 gL_law_X5_errorPosition rfl rfl rfl kdX5_errorPosition ⟨(Nat.le_of_ble_eq_true rfl), (Nat.le_of_ble_eq_true rfl)⟩) (by decide) rfl rfl rfl rfl hl.1 (Nat.le_of_ble_eq_true rfl) ⟨by show _ ≤ 601024; omega, by show _ ≤ 7293034; omega⟩ dL_law_234 (fun H locs hR hS => ?_)
        refine lv_aload_n hx hb dL_law_237 rfl (lv_at hl 2 rfl) ?_
        obtain ⟨r_23, S6, hq_24, hf⟩ := bd2_some hf
        refine kVi (id := 369) (As := []) (rest := [.int r_21]) X hR hS (zcX6_errorPosition l D cy ad ba O1 S1 _ _ hq_24) (cwV 0 X.2.2.2.2.2.1 gL_law_X6_errorPosition rfl rfl rfl kdX6_errorPosition ⟨(Nat.le_of_ble_eq_true rfl), (Nat.le_of_ble_eq_true rfl)⟩) (by decide) rfl rfl rfl rfl hl.1 (Nat.le_of_ble_eq_true rfl) ⟨by show _ ≤ 601024; omega, by show _ ≤ 7293034; omega⟩ dL_law_238 (fun H locs hR hS => ?_)
        refine lv_icmp_eq (tgt := 1848) hx hb dL_law_241 (by decide) (fun c_25 => ?_) (fun c_25 => ?_)
        · replace hf := ite_t c_25 hf
          exact bL_law_1848 (S := S) (xs := xs) (L := L) X hl0 hX hbl hbA hba (nn := _) ih S6 O1 (v4) _ _ _ _ _ (by omega) (by omega) hR hS (lv_sub hl [0, 1, 2, 3, 4] rfl) hf
        · replace hf := ite_f c_25 hf
          refine lv_iconst (v := (0 : Int32)) hx hb dL_law_244 (by decide) ?_
          exact absurd (Option.some.inj hf) (by decide)
      replace hf := ite_f c_20 hf
      by_cases c_26 : ((xs v4.toNatClampNeg) &&& (31 : Int32)) = (3 : Int32)
      · replace hf := ite_t c_26 hf
        refine lv_tableIn (off := 207) (tgt := 246) hx hb dL_law_39 (by rw [c_26]; decide) (by rw [c_26]; decide) (by rw [c_26]; decide) (by decide) ?_
        refine lv_aload_n hx hb dL_law_246 rfl (lv_at hl 1 rfl) ?_
        refine lv_aload_n hx hb dL_law_247 rfl (lv_at hl 3 rfl) ?_
        obtain ⟨r_27, O7, S7, hq_28, hf⟩ := bd3_some hf
        refine kLw (As := [.ref (ad 360), .ref (ad 379)]) (rest := []) X hR hS (zcL_load l D cy ad ba O1 S1 hl0 _ hq_28) (vx_cwSW (hh := [(0, 8, 11, 15)]) 2 X.2.2.2.2.2.1 gL_law_L_load rfl rfl rfl kdL_load.2 ⟨(Nat.le_of_ble_eq_true rfl), (Nat.le_of_ble_eq_true rfl)⟩) rfl rfl hl.1 (Nat.le_of_ble_eq_true rfl) ⟨by show _ ≤ 601024; omega, by show _ ≤ 7293034; omega⟩ dL_law_248 (fun H locs hR hS => ?_)
        refine lv_istore (lv' := [(5, .int r_27), (0, .ref b), (1, .ref (ad 360)), (2, .ref (ad 369)), (3, .ref (ad 379)), (4, .int v4)]) hx hb dL_law_251 hl (by decide) rfl (fun ls hl => ?_)
        refine lv_aload_n hx hb dL_law_253 rfl (lv_at hl 3 rfl) ?_
        obtain ⟨r_29, S8, hq_30, hf⟩ := bd2_some hf
        refine kVi (id := 369) (As := []) (rest := []) X hR hS (zcX6_load l D cy ad ba O7 S7 _ _ hq_30) (cwV 0 X.2.2.2.2.2.1 gL_law_X6_load rfl rfl rfl kdX6_load ⟨(Nat.le_of_ble_eq_true rfl), (Nat.le_of_ble_eq_true rfl)⟩) (by decide) rfl rfl rfl rfl hl.1 (Nat.le_of_ble_eq_true rfl) ⟨by show _ ≤ 601024; omega, by show _ ≤ 7293034; omega⟩ dL_law_254 (fun H locs hR hS => ?_)
        refine lv_istore (lv' := [(6, .int r_29), (5, .int r_27), (0, .ref b), (1, .ref (ad 360)), (2, .ref (ad 369)), (3, .ref (ad 379)), (4, .int v4)]) hx hb dL_law_257 hl (by decide) rfl (fun ls hl => ?_)
        refine lv_aload_n hx hb dL_law_259 rfl (lv_at hl 4 rfl) ?_
        obtain ⟨r_31, hq_32, hf⟩ := bd1_some hf
        refine kVi (id := 369) (As := []) (rest := []) X hR hS (zcX6_thrown l D cy ad ba O7 S8 _ hq_32) (cwV 0 X.2.2.2.2.2.1 gL_law_X6_thrown rfl rfl rfl kdX6_thrown ⟨(Nat.le_of_ble_eq_true rfl), (Nat.le_of_ble_eq_true rfl)⟩) (by decide) rfl rfl rfl rfl hl.1 (Nat.le_of_ble_eq_true rfl) ⟨by show _ ≤ 601024; omega, by show _ ≤ 7293034; omega⟩ dL_law_260 (fun H locs hR hS => ?_)
        refine lv_iload hx hb dL_law_263 (lv_at hl 1 rfl) ?_
        refine lv_icmp_eq (tgt := 270) hx hb dL_law_265 (by decide) (fun c_33 => ?_) (fun c_33 => ?_)
        · replace hf := ite_t c_33 hf
          refine lv_iload hx hb dL_law_270 (lv_at hl 1 rfl) ?_
          refine lv_if_ne (tgt := 287) hx hb dL_law_272 (by decide) (fun c_34 => ?_) (fun c_34 => ?_)
          · replace hf := ite_f c_34 hf
            refine lv_goto (tgt := 1848) hx hb dL_law_287 (by decide) ?_
            exact bL_law_1848 (S := S) (xs := xs) (L := L) X hl0 hX hbl hbA hba (nn := _) ih S8 O7 (v4) _ _ _ _ _ (by omega) (by omega) hR hS (lv_sub hl [2, 3, 4, 5, 6] rfl) hf
          · replace hf := ite_t c_34 hf
            refine lv_aload_n hx hb dL_law_275 rfl (lv_at hl 5 rfl) ?_
            refine lv_iconst (v := (0 : Int32)) hx hb dL_law_276 (by decide) ?_
            refine te_lald X hR dL_law_277 ?_
            refine lv_iload hx hb dL_law_278 (lv_at hl 0 rfl) ?_
            refine lv_i2l hx hb dL_law_280 rfl ?_
            refine W.lcmp hx hb dL_law_281 ?_
            refine lv_if_eq (tgt := 287) hx hb dL_law_282 (by decide) (fun c_35 => ?_) (fun c_35 => ?_)
            · replace hf := ite_t c_35 hf
              refine lv_goto (tgt := 1848) hx hb dL_law_287 (by decide) ?_
              exact bL_law_1848 (S := S) (xs := xs) (L := L) X hl0 hX hbl hbA hba (nn := _) ih S8 O7 (v4) _ _ _ _ _ (by omega) (by omega) hR hS (lv_sub hl [2, 3, 4, 5, 6] rfl) hf
            · replace hf := ite_f c_35 hf
              refine lv_iconst (v := (0 : Int32)) hx hb dL_law_285 (by decide) ?_
              exact absurd (Option.some.inj hf) (by decide)
        · replace hf := ite_f c_33 hf
          refine lv_iconst (v := (0 : Int32)) hx hb dL_law_268 (by decide) ?_
          exact absurd (Option.some.inj hf) (by decide)
      replace hf := ite_f c_26 hf
      by_cases c_36 : ((xs v4.toNatClampNeg) &&& (31 : Int32)) = (4 : Int32)
      · replace hf := ite_t c_36 hf
        refine lv_tableIn (off := 251) (tgt := 290) hx hb dL_law_39 (by rw [c_36]; decide) (by rw [c_36]; decide) (by rw [c_36]; decide) (by decide) ?_
        refine lv_aload_n hx hb dL_law_290 rfl (lv_at hl 1 rfl) ?_
        refine lv_aload_n hx hb dL_law_291 rfl (lv_at hl 0 rfl) ?_
        refine lv_iload hx hb dL_law_292 (lv_at hl 4 rfl) ?_
        refine lv_iconst (v := (1 : Int32)) hx hb dL_law_294 (by decide) ?_
        refine lv_iadd hx hb dL_law_295 ?_
        obtain ⟨h_37, hf⟩ := chk_some hf
        refine va_sld hx hb hX hbl hbA hS (tein_in h_37) dL_law_296 ?_
        refine lv_aload_n hx hb dL_law_297 rfl (lv_at hl 3 rfl) ?_
        obtain ⟨r_38, O9, S9, hq_39, hf⟩ := bd3_some hf
        refine kLw (As := [.ref (ad 360), .int (xs (v4 + (1 : Int32)).toNatClampNeg), .ref (ad 379)]) (rest := []) X hR hS (zcL_about l D cy ad ba O1 S1 (xs (v4 + (1 : Int32)).toNatClampNeg) hl0 _ hq_39) (vx_cwSW (hh := [(0, 9, 12, 13)]) 3 X.2.2.2.2.2.1 gL_law_L_about rfl rfl rfl kdL_about.2 ⟨(Nat.le_of_ble_eq_true rfl), (Nat.le_of_ble_eq_true rfl)⟩) rfl rfl hl.1 (Nat.le_of_ble_eq_true rfl) ⟨by show _ ≤ 601024; omega, by show _ ≤ 7293034; omega⟩ dL_law_298 (fun H locs hR hS => ?_)
        refine lv_istore (lv' := [(5, .int r_38), (0, .ref b), (1, .ref (ad 360)), (2, .ref (ad 369)), (3, .ref (ad 379)), (4, .int v4)]) hx hb dL_law_301 hl (by decide) rfl (fun ls hl => ?_)
        refine lv_aload_n hx hb dL_law_303 rfl (lv_at hl 3 rfl) ?_
        refine lv_aload_n hx hb dL_law_304 rfl (lv_at hl 1 rfl) ?_
        refine lv_iload hx hb dL_law_305 (lv_at hl 5 rfl) ?_
        refine lv_iconst (v := (1 : Int32)) hx hb dL_law_307 (by decide) ?_
        refine lv_iadd hx hb dL_law_308 ?_
        refine va_sld hx hb hX hbl hbA hS (tein_in h_37) dL_law_309 ?_
        obtain ⟨r_40, S10, hq_41, hf⟩ := bd2_some hf
        refine kVi (id := 369) (As := [.int (xs (v4 + (1 : Int32)).toNatClampNeg)]) (rest := []) X hR hS (zcX6_about l D cy ad ba O9 S9 (xs (v4 + (1 : Int32)).toNatClampNeg) _ _ hq_41) (cwV 1 X.2.2.2.2.2.1 gL_law_X6_about rfl rfl rfl kdX6_about ⟨(Nat.le_of_ble_eq_true rfl), (Nat.le_of_ble_eq_true rfl)⟩) (by decide) rfl rfl rfl rfl hl.1 (Nat.le_of_ble_eq_true rfl) ⟨by show _ ≤ 601024; omega, by show _ ≤ 7293034; omega⟩ dL_law_310 (fun H locs hR hS => ?_)
        refine lv_istore (lv' := [(6, .int r_40), (5, .int r_38), (0, .ref b), (1, .ref (ad 360)), (2, .ref (ad 369)), (3, .ref (ad 379)), (4, .int v4)]) hx hb dL_law_313 hl (by decide) rfl (fun ls hl => ?_)
        refine lv_aload_n hx hb dL_law_315 rfl (lv_at hl 4 rfl) ?_
        obtain ⟨r_42, hq_43, hf⟩ := bd1_some hf
        refine kVi (id := 369) (As := []) (rest := []) X hR hS (zcX6_thrown l D cy ad ba O9 S10 _ hq_43) (cwV 0 X.2.2.2.2.2.1 gL_law_X6_thrown rfl rfl rfl kdX6_thrown ⟨(Nat.le_of_ble_eq_true rfl), (Nat.le_of_ble_eq_true rfl)⟩) (by decide) rfl rfl rfl rfl hl.1 (Nat.le_of_ble_eq_true rfl) ⟨by show _ ≤ 601024; omega, by show _ ≤ 7293034; omega⟩ dL_law_316 (fun H locs hR hS => ?_)
        refine lv_iload hx hb dL_law_319 (lv_at hl 1 rfl) ?_
        refine lv_icmp_eq (tgt := 326) hx hb dL_law_321 (by decide) (fun c_44 => ?_) (fun c_44 => ?_)
        · replace hf := ite_t c_44 hf
          refine lv_iload hx hb dL_law_326 (lv_at hl 1 rfl) ?_
          refine lv_if_ne (tgt := 343) hx hb dL_law_328 (by decide) (fun c_45 => ?_) (fun c_45 => ?_)
          · replace hf := ite_f c_45 hf
            refine lv_goto (tgt := 1848) hx hb dL_law_343 (by decide) ?_
            exact bL_law_1848 (S := S) (xs := xs) (L := L) X hl0 hX hbl hbA hba (nn := _) ih S10 O9 (v4) _ _ _ _ _ (by omega) (by omega) hR hS (lv_sub hl [2, 3, 4, 5, 6] rfl) hf
          · replace hf := ite_t c_45 hf
            refine lv_aload_n hx hb dL_law_331 rfl (lv_at hl 5 rfl) ?_
            refine lv_iconst (v := (0 : Int32)) hx hb dL_law_332 (by decide) ?_
            refine te_lald X hR dL_law_333 ?_
            refine lv_iload hx hb dL_law_334 (lv_at hl 0 rfl) ?_
            refine lv_i2l hx hb dL_law_336 rfl ?_
            refine W.lcmp hx hb dL_law_337 ?_
            refine lv_if_eq (tgt := 343) hx hb dL_law_338 (by decide) (fun c_46 => ?_) (fun c_46 => ?_)
            · replace hf := ite_t c_46 hf
              refine lv_goto (tgt := 1848) hx hb dL_law_343 (by decide) ?_
              exact bL_law_1848 (S := S) (xs := xs) (L := L) X hl0 hX hbl hbA hba (nn := _) ih S10 O9 (v4) _ _ _ _ _ (by omega) (by omega) hR hS (lv_sub hl [2, 3, 4, 5, 6] rfl) hf
            · replace hf := ite_f c_46 hf
              refine lv_iconst (v := (0 : Int32)) hx hb dL_law_341 (by decide) ?_
              exact absurd (Option.some.inj hf) (by decide)
        · replace hf := ite_f c_44 hf
          refine lv_iconst (v := (0 : Int32)) hx hb dL_law_324 (by decide) ?_
          exact absurd (Option.some.inj hf) (by decide)
      replace hf := ite_f c_36 hf
      by_cases c_47 : ((xs v4.toNatClampNeg) &&& (31 : Int32)) = (5 : Int32)
      · replace hf := ite_t c_47 hf
        refine lv_tableIn (off := 307) (tgt := 346) hx hb dL_law_39 (by rw [c_47]; decide) (by rw [c_47]; decide) (by rw [c_47]; decide) (by decide) ?_
        refine lv_aload_n hx hb dL_law_346 rfl (lv_at hl 1 rfl) ?_
        refine lv_aload_n hx hb dL_law_347 rfl (lv_at hl 0 rfl) ?_
        refine lv_iload hx hb dL_law_348 (lv_at hl 4 rfl) ?_
        refine lv_iconst (v := (1 : Int32)) hx hb dL_law_350 (by decide) ?_
        refine lv_iadd hx hb dL_law_351 ?_
        obtain ⟨h_48, hf⟩ := chk_some hf
        refine va_sld hx hb hX hbl hbA hS (tein_in h_48) dL_law_352 ?_
        refine lv_aload_n hx hb dL_law_353 rfl (lv_at hl 0 rfl) ?_
        refine lv_iload hx hb dL_law_354 (lv_at hl 4 rfl) ?_
        refine lv_iconst (v := (2 : Int32)) hx hb dL_law_356 (by decide) ?_
        refine lv_iadd hx hb dL_law_357 ?_
        obtain ⟨h_49, hf⟩ := chk_some hf
        refine va_sld hx hb hX hbl hbA hS (tein_in h_49) dL_law_358 ?_
        refine lv_aload_n hx hb dL_law_359 rfl (lv_at hl 3 rfl) ?_
        obtain ⟨r_50, O11, S11, hq_51, hf⟩ := bd3_some hf
        refine kLw (As := [.ref (ad 360), .int (xs (v4 + (1 : Int32)).toNatClampNeg), .int (xs (v4 + (2 : Int32)).toNatClampNeg), .ref (ad 379)]) (rest := []) X hR hS (zcL_member l D cy ad ba O1 S1 (xs (v4 + (1 : Int32)).toNatClampNeg) (xs (v4 + (2 : Int32)).toNatClampNeg) hl0 _ hq_51) (vx_cwSW (hh := [(0, 10, 13, 28), (0, 10, 17, 13)]) 4 X.2.2.2.2.2.1 gL_law_L_member rfl rfl rfl kdL_member.2 ⟨(Nat.le_of_ble_eq_true rfl), (Nat.le_of_ble_eq_true rfl)⟩) rfl rfl hl.1 (Nat.le_of_ble_eq_true rfl) ⟨by show _ ≤ 601024; omega, by show _ ≤ 7293034; omega⟩ dL_law_360 (fun H locs hR hS => ?_)
        refine lv_istore (lv' := [(5, .int r_50), (0, .ref b), (1, .ref (ad 360)), (2, .ref (ad 369)), (3, .ref (ad 379)), (4, .int v4)]) hx hb dL_law_363 hl (by decide) rfl (fun ls hl => ?_)
        refine lv_aload_n hx hb dL_law_365 rfl (lv_at hl 3 rfl) ?_
        refine lv_aload_n hx hb dL_law_366 rfl (lv_at hl 1 rfl) ?_
        refine lv_iload hx hb dL_law_367 (lv_at hl 5 rfl) ?_
        refine lv_iconst (v := (1 : Int32)) hx hb dL_law_369 (by decide) ?_
        refine lv_iadd hx hb dL_law_370 ?_
        refine va_sld hx hb hX hbl hbA hS (tein_in h_48) dL_law_371 ?_
        refine lv_aload_n hx hb dL_law_372 rfl (lv_at hl 1 rfl) ?_
        refine lv_iload hx hb dL_law_373 (lv_at hl 5 rfl) ?_
        refine lv_iconst (v := (2 : Int32)) hx hb dL_law_375 (by decide) ?_
        refine lv_iadd hx hb dL_law_376 ?_
        refine va_sld hx hb hX hbl hbA hS (tein_in h_49) dL_law_377 ?_
        obtain ⟨r_52, S12, hq_53, hf⟩ := bd2_some hf
        refine kVi (id := 369) (As := [.int (xs (v4 + (1 : Int32)).toNatClampNeg), .int (xs (v4 + (2 : Int32)).toNatClampNeg)]) (rest := []) X hR hS (zcX6_member l D cy ad ba O11 S11 (xs (v4 + (1 : Int32)).toNatClampNeg) (xs (v4 + (2 : Int32)).toNatClampNeg) _ _ hq_53) (cwV 2 X.2.2.2.2.2.1 gL_law_X6_member rfl rfl rfl kdX6_member ⟨(Nat.le_of_ble_eq_true rfl), (Nat.le_of_ble_eq_true rfl)⟩) (by decide) rfl rfl rfl rfl hl.1 (Nat.le_of_ble_eq_true rfl) ⟨by show _ ≤ 601024; omega, by show _ ≤ 7293034; omega⟩ dL_law_378 (fun H locs hR hS => ?_)
        refine lv_istore (lv' := [(6, .int r_52), (5, .int r_50), (0, .ref b), (1, .ref (ad 360)), (2, .ref (ad 369)), (3, .ref (ad 379)), (4, .int v4)]) hx hb dL_law_381 hl (by decide) rfl (fun ls hl => ?_)
        refine lv_aload_n hx hb dL_law_383 rfl (lv_at hl 4 rfl) ?_
        obtain ⟨r_54, hq_55, hf⟩ := bd1_some hf
        refine kVi (id := 369) (As := []) (rest := []) X hR hS (zcX6_thrown l D cy ad ba O11 S12 _ hq_55) (cwV 0 X.2.2.2.2.2.1 gL_law_X6_thrown rfl rfl rfl kdX6_thrown ⟨(Nat.le_of_ble_eq_true rfl), (Nat.le_of_ble_eq_true rfl)⟩) (by decide) rfl rfl rfl rfl hl.1 (Nat.le_of_ble_eq_true rfl) ⟨by show _ ≤ 601024; omega, by show _ ≤ 7293034; omega⟩ dL_law_384 (fun H locs hR hS => ?_)
        refine lv_iload hx hb dL_law_387 (lv_at hl 1 rfl) ?_
        refine lv_icmp_eq (tgt := 394) hx hb dL_law_389 (by decide) (fun c_56 => ?_) (fun c_56 => ?_)
        · replace hf := ite_t c_56 hf
          refine lv_iload hx hb dL_law_394 (lv_at hl 1 rfl) ?_
          refine lv_if_ne (tgt := 411) hx hb dL_law_396 (by decide) (fun c_57 => ?_) (fun c_57 => ?_)
          · replace hf := ite_f c_57 hf
            refine lv_goto (tgt := 1848) hx hb dL_law_411 (by decide) ?_
            exact bL_law_1848 (S := S) (xs := xs) (L := L) X hl0 hX hbl hbA hba (nn := _) ih S12 O11 (v4) _ _ _ _ _ (by omega) (by omega) hR hS (lv_sub hl [2, 3, 4, 5, 6] rfl) hf
          · replace hf := ite_t c_57 hf
            refine lv_aload_n hx hb dL_law_399 rfl (lv_at hl 5 rfl) ?_
            refine lv_iconst (v := (0 : Int32)) hx hb dL_law_400 (by decide) ?_
            refine te_lald X hR dL_law_401 ?_
            refine lv_iload hx hb dL_law_402 (lv_at hl 0 rfl) ?_
            refine lv_i2l hx hb dL_law_404 rfl ?_
            refine W.lcmp hx hb dL_law_405 ?_
            refine lv_if_eq (tgt := 411) hx hb dL_law_406 (by decide) (fun c_58 => ?_) (fun c_58 => ?_)
            · replace hf := ite_t c_58 hf
              refine lv_goto (tgt := 1848) hx hb dL_law_411 (by decide) ?_
              exact bL_law_1848 (S := S) (xs := xs) (L := L) X hl0 hX hbl hbA hba (nn := _) ih S12 O11 (v4) _ _ _ _ _ (by omega) (by omega) hR hS (lv_sub hl [2, 3, 4, 5, 6] rfl) hf
            · replace hf := ite_f c_58 hf
              refine lv_iconst (v := (0 : Int32)) hx hb dL_law_409 (by decide) ?_
              exact absurd (Option.some.inj hf) (by decide)
        · replace hf := ite_f c_56 hf
          refine lv_iconst (v := (0 : Int32)) hx hb dL_law_392 (by decide) ?_
          exact absurd (Option.some.inj hf) (by decide)
      replace hf := ite_f c_47 hf
      by_cases c_59 : ((xs v4.toNatClampNeg) &&& (31 : Int32)) = (6 : Int32)
      · replace hf := ite_t c_59 hf
        refine lv_tableIn (off := 375) (tgt := 414) hx hb dL_law_39 (by rw [c_59]; decide) (by rw [c_59]; decide) (by rw [c_59]; decide) (by decide) ?_
        refine lv_aload_n hx hb dL_law_414 rfl (lv_at hl 1 rfl) ?_
        refine lv_aload_n hx hb dL_law_415 rfl (lv_at hl 0 rfl) ?_
        refine lv_iload hx hb dL_law_416 (lv_at hl 4 rfl) ?_
        refine lv_iconst (v := (1 : Int32)) hx hb dL_law_418 (by decide) ?_
        refine lv_iadd hx hb dL_law_419 ?_
        obtain ⟨h_60, hf⟩ := chk_some hf
        refine va_sld hx hb hX hbl hbA hS (tein_in h_60) dL_law_420 ?_
        refine lv_aload_n hx hb dL_law_421 rfl (lv_at hl 0 rfl) ?_
        refine lv_iload hx hb dL_law_422 (lv_at hl 4 rfl) ?_
        refine lv_iconst (v := (2 : Int32)) hx hb dL_law_424 (by decide) ?_
        refine lv_iadd hx hb dL_law_425 ?_
        obtain ⟨h_61, hf⟩ := chk_some hf
        refine va_sld hx hb hX hbl hbA hS (tein_in h_61) dL_law_426 ?_
        refine lv_aload_n hx hb dL_law_427 rfl (lv_at hl 0 rfl) ?_
        refine lv_iload hx hb dL_law_428 (lv_at hl 4 rfl) ?_
        refine lv_iconst (v := (3 : Int32)) hx hb dL_law_430 (by decide) ?_
        refine lv_iadd hx hb dL_law_431 ?_
        obtain ⟨h_62, hf⟩ := chk_some hf
        refine va_sld hx hb hX hbl hbA hS (tein_in h_62) dL_law_432 ?_
        refine lv_aload_n hx hb dL_law_433 rfl (lv_at hl 3 rfl) ?_
        obtain ⟨r_63, O13, S13, hq_64, hf⟩ := bd3_some hf
        refine kLw (As := [.ref (ad 360), .int (xs (v4 + (1 : Int32)).toNatClampNeg), .int (xs (v4 + (2 : Int32)).toNatClampNeg), .int (xs (v4 + (3 : Int32)).toNatClampNeg), .ref (ad 379)]) (rest := []) X hR hS (zcL_both l D cy ad ba O1 S1 (xs (v4 + (1 : Int32)).toNatClampNeg) (xs (v4 + (2 : Int32)).toNatClampNeg) (xs (v4 + (3 : Int32)).toNatClampNeg) hl0 _ hq_64) (vx_cwSW (hh := [(0, 12, 15, 28), (0, 12, 19, 13)]) 5 X.2.2.2.2.2.1 gL_law_L_both rfl rfl rfl kdL_both.2 ⟨(Nat.le_of_ble_eq_true rfl), (Nat.le_of_ble_eq_true rfl)⟩) rfl rfl hl.1 (Nat.le_of_ble_eq_true rfl) ⟨by show _ ≤ 601024; omega, by show _ ≤ 7293034; omega⟩ dL_law_434 (fun H locs hR hS => ?_)
        refine lv_istore (lv' := [(5, .int r_63), (0, .ref b), (1, .ref (ad 360)), (2, .ref (ad 369)), (3, .ref (ad 379)), (4, .int v4)]) hx hb dL_law_437 hl (by decide) rfl (fun ls hl => ?_)
        refine lv_aload_n hx hb dL_law_439 rfl (lv_at hl 3 rfl) ?_
        refine lv_aload_n hx hb dL_law_440 rfl (lv_at hl 1 rfl) ?_
        refine lv_iload hx hb dL_law_441 (lv_at hl 5 rfl) ?_
        refine lv_iconst (v := (1 : Int32)) hx hb dL_law_443 (by decide) ?_
        refine lv_iadd hx hb dL_law_444 ?_
        refine va_sld hx hb hX hbl hbA hS (tein_in h_60) dL_law_445 ?_
        refine lv_aload_n hx hb dL_law_446 rfl (lv_at hl 1 rfl) ?_
        refine lv_iload hx hb dL_law_447 (lv_at hl 5 rfl) ?_
        refine lv_iconst (v := (2 : Int32)) hx hb dL_law_449 (by decide) ?_
        refine lv_iadd hx hb dL_law_450 ?_
        refine va_sld hx hb hX hbl hbA hS (tein_in h_61) dL_law_451 ?_
        refine lv_aload_n hx hb dL_law_452 rfl (lv_at hl 1 rfl) ?_
        refine lv_iload hx hb dL_law_453 (lv_at hl 5 rfl) ?_
        refine lv_iconst (v := (3 : Int32)) hx hb dL_law_455 (by decide) ?_
        refine lv_iadd hx hb dL_law_456 ?_
        refine va_sld hx hb hX hbl hbA hS (tein_in h_62) dL_law_457 ?_
        obtain ⟨r_65, S14, hq_66, hf⟩ := bd2_some hf
        refine kVi (id := 369) (As := [.int (xs (v4 + (1 : Int32)).toNatClampNeg), .int (xs (v4 + (2 : Int32)).toNatClampNeg), .int (xs (v4 + (3 : Int32)).toNatClampNeg)]) (rest := []) X hR hS (zcX6_both l D cy ad ba O13 S13 (xs (v4 + (1 : Int32)).toNatClampNeg) (xs (v4 + (2 : Int32)).toNatClampNeg) (xs (v4 + (3 : Int32)).toNatClampNeg) _ _ hq_66) (cwV 3 X.2.2.2.2.2.1 gL_law_X6_both rfl rfl rfl kdX6_both ⟨(Nat.le_of_ble_eq_true rfl), (Nat.le_of_ble_eq_true rfl)⟩) (by decide) rfl rfl rfl rfl hl.1 (Nat.le_of_ble_eq_true rfl) ⟨by show _ ≤ 601024; omega, by show _ ≤ 7293034; omega⟩ dL_law_458 (fun H locs hR hS => ?_)
        refine lv_istore (lv' := [(6, .int r_65), (5, .int r_63), (0, .ref b), (1, .ref (ad 360)), (2, .ref (ad 369)), (3, .ref (ad 379)), (4, .int v4)]) hx hb dL_law_461 hl (by decide) rfl (fun ls hl => ?_)
        refine lv_aload_n hx hb dL_law_463 rfl (lv_at hl 4 rfl) ?_
        obtain ⟨r_67, hq_68, hf⟩ := bd1_some hf
        refine kVi (id := 369) (As := []) (rest := []) X hR hS (zcX6_thrown l D cy ad ba O13 S14 _ hq_68) (cwV 0 X.2.2.2.2.2.1 gL_law_X6_thrown rfl rfl rfl kdX6_thrown ⟨(Nat.le_of_ble_eq_true rfl), (Nat.le_of_ble_eq_true rfl)⟩) (by decide) rfl rfl rfl rfl hl.1 (Nat.le_of_ble_eq_true rfl) ⟨by show _ ≤ 601024; omega, by show _ ≤ 7293034; omega⟩ dL_law_464 (fun H locs hR hS => ?_)
        refine lv_iload hx hb dL_law_467 (lv_at hl 1 rfl) ?_
        refine lv_icmp_eq (tgt := 474) hx hb dL_law_469 (by decide) (fun c_69 => ?_) (fun c_69 => ?_)
        · replace hf := ite_t c_69 hf
          refine lv_iload hx hb dL_law_474 (lv_at hl 1 rfl) ?_
          refine lv_if_ne (tgt := 491) hx hb dL_law_476 (by decide) (fun c_70 => ?_) (fun c_70 => ?_)
          · replace hf := ite_f c_70 hf
            refine lv_goto (tgt := 1848) hx hb dL_law_491 (by decide) ?_
            exact bL_law_1848 (S := S) (xs := xs) (L := L) X hl0 hX hbl hbA hba (nn := _) ih S14 O13 (v4) _ _ _ _ _ (by omega) (by omega) hR hS (lv_sub hl [2, 3, 4, 5, 6] rfl) hf
          · replace hf := ite_t c_70 hf
            refine lv_aload_n hx hb dL_law_479 rfl (lv_at hl 5 rfl) ?_
            refine lv_iconst (v := (0 : Int32)) hx hb dL_law_480 (by decide) ?_
            refine te_lald X hR dL_law_481 ?_
            refine lv_iload hx hb dL_law_482 (lv_at hl 0 rfl) ?_
            refine lv_i2l hx hb dL_law_484 rfl ?_
            refine W.lcmp hx hb dL_law_485 ?_
            refine lv_if_eq (tgt := 491) hx hb dL_law_486 (by decide) (fun c_71 => ?_) (fun c_71 => ?_)
            · replace hf := ite_t c_71 hf
              refine lv_goto (tgt := 1848) hx hb dL_law_491 (by decide) ?_
              exact bL_law_1848 (S := S) (xs := xs) (L := L) X hl0 hX hbl hbA hba (nn := _) ih S14 O13 (v4) _ _ _ _ _ (by omega) (by omega) hR hS (lv_sub hl [2, 3, 4, 5, 6] rfl) hf
            · replace hf := ite_f c_71 hf
              refine lv_iconst (v := (0 : Int32)) hx hb dL_law_489 (by decide) ?_
              exact absurd (Option.some.inj hf) (by decide)
        · replace hf := ite_f c_69 hf
          refine lv_iconst (v := (0 : Int32)) hx hb dL_law_472 (by decide) ?_
          exact absurd (Option.some.inj hf) (by decide)
      replace hf := ite_f c_59 hf
      by_cases c_72 : ((xs v4.toNatClampNeg) &&& (31 : Int32)) = (7 : Int32)
      · replace hf := ite_t c_72 hf
        refine lv_tableIn (off := 455) (tgt := 494) hx hb dL_law_39 (by rw [c_72]; decide) (by rw [c_72]; decide) (by rw [c_72]; decide) (by decide) ?_
        refine lv_aload_n hx hb dL_law_494 rfl (lv_at hl 1 rfl) ?_
        refine lv_aload_n hx hb dL_law_495 rfl (lv_at hl 0 rfl) ?_
        refine lv_iload hx hb dL_law_496 (lv_at hl 4 rfl) ?_
        refine lv_iconst (v := (1 : Int32)) hx hb dL_law_498 (by decide) ?_
        refine lv_iadd hx hb dL_law_499 ?_
        obtain ⟨h_73, hf⟩ := chk_some hf
        refine va_sld hx hb hX hbl hbA hS (tein_in h_73) dL_law_500 ?_
        refine lv_aload_n hx hb dL_law_501 rfl (lv_at hl 0 rfl) ?_
        refine lv_iload hx hb dL_law_502 (lv_at hl 4 rfl) ?_
        refine lv_iconst (v := (2 : Int32)) hx hb dL_law_504 (by decide) ?_
        refine lv_iadd hx hb dL_law_505 ?_
        obtain ⟨h_74, hf⟩ := chk_some hf
        refine va_sld hx hb hX hbl hbA hS (tein_in h_74) dL_law_506 ?_
        refine lv_aload_n hx hb dL_law_507 rfl (lv_at hl 0 rfl) ?_
        refine lv_iload hx hb dL_law_508 (lv_at hl 4 rfl) ?_
        refine lv_iconst (v := (3 : Int32)) hx hb dL_law_510 (by decide) ?_
        refine lv_iadd hx hb dL_law_511 ?_
        obtain ⟨h_75, hf⟩ := chk_some hf
        refine va_sld hx hb hX hbl hbA hS (tein_in h_75) dL_law_512 ?_
        refine lv_aload_n hx hb dL_law_513 rfl (lv_at hl 3 rfl) ?_
        obtain ⟨r_76, O15, S15, hq_77, hf⟩ := bd3_some hf
        refine kLw (As := [.ref (ad 360), .int (xs (v4 + (1 : Int32)).toNatClampNeg), .int (xs (v4 + (2 : Int32)).toNatClampNeg), .int (xs (v4 + (3 : Int32)).toNatClampNeg), .ref (ad 379)]) (rest := []) X hR hS (zcL_join l D cy ad ba O1 S1 (xs (v4 + (1 : Int32)).toNatClampNeg) (xs (v4 + (2 : Int32)).toNatClampNeg) (xs (v4 + (3 : Int32)).toNatClampNeg) hl0 _ hq_77) (vx_cwSW (hh := [(0, 12, 15, 13), (0, 12, 19, 15)]) 5 X.2.2.2.2.2.1 gL_law_L_join rfl rfl rfl kdL_join.2 ⟨(Nat.le_of_ble_eq_true rfl), (Nat.le_of_ble_eq_true rfl)⟩) rfl rfl hl.1 (Nat.le_of_ble_eq_true rfl) ⟨by show _ ≤ 601024; omega, by show _ ≤ 7293034; omega⟩ dL_law_514 (fun H locs hR hS => ?_)
        refine lv_istore (lv' := [(5, .int r_76), (0, .ref b), (1, .ref (ad 360)), (2, .ref (ad 369)), (3, .ref (ad 379)), (4, .int v4)]) hx hb dL_law_517 hl (by decide) rfl (fun ls hl => ?_)
        refine lv_aload_n hx hb dL_law_519 rfl (lv_at hl 3 rfl) ?_
        refine lv_aload_n hx hb dL_law_520 rfl (lv_at hl 1 rfl) ?_
        refine lv_iload hx hb dL_law_521 (lv_at hl 5 rfl) ?_
        refine lv_iconst (v := (1 : Int32)) hx hb dL_law_523 (by decide) ?_
        refine lv_iadd hx hb dL_law_524 ?_
        refine va_sld hx hb hX hbl hbA hS (tein_in h_73) dL_law_525 ?_
        refine lv_aload_n hx hb dL_law_526 rfl (lv_at hl 1 rfl) ?_
        refine lv_iload hx hb dL_law_527 (lv_at hl 5 rfl) ?_
        refine lv_iconst (v := (2 : Int32)) hx hb dL_law_529 (by decide) ?_
        refine lv_iadd hx hb dL_law_530 ?_
        refine va_sld hx hb hX hbl hbA hS (tein_in h_74) dL_law_531 ?_
        refine lv_aload_n hx hb dL_law_532 rfl (lv_at hl 1 rfl) ?_
        refine lv_iload hx hb dL_law_533 (lv_at hl 5 rfl) ?_
        refine lv_iconst (v := (3 : Int32)) hx hb dL_law_535 (by decide) ?_
        refine lv_iadd hx hb dL_law_536 ?_
        refine va_sld hx hb hX hbl hbA hS (tein_in h_75) dL_law_537 ?_
        obtain ⟨r_78, S16, hq_79, hf⟩ := bd2_some hf
        refine kVi (id := 369) (As := [.int (xs (v4 + (1 : Int32)).toNatClampNeg), .int (xs (v4 + (2 : Int32)).toNatClampNeg), .int (xs (v4 + (3 : Int32)).toNatClampNeg)]) (rest := []) X hR hS (zcX6_join l D cy ad ba O15 S15 (xs (v4 + (1 : Int32)).toNatClampNeg) (xs (v4 + (2 : Int32)).toNatClampNeg) (xs (v4 + (3 : Int32)).toNatClampNeg) _ _ hq_79) (cwV 3 X.2.2.2.2.2.1 gL_law_X6_join rfl rfl rfl kdX6_join ⟨(Nat.le_of_ble_eq_true rfl), (Nat.le_of_ble_eq_true rfl)⟩) (by decide) rfl rfl rfl rfl hl.1 (Nat.le_of_ble_eq_true rfl) ⟨by show _ ≤ 601024; omega, by show _ ≤ 7293034; omega⟩ dL_law_538 (fun H locs hR hS => ?_)
        refine lv_istore (lv' := [(6, .int r_78), (5, .int r_76), (0, .ref b), (1, .ref (ad 360)), (2, .ref (ad 369)), (3, .ref (ad 379)), (4, .int v4)]) hx hb dL_law_541 hl (by decide) rfl (fun ls hl => ?_)
        refine lv_aload_n hx hb dL_law_543 rfl (lv_at hl 4 rfl) ?_
        obtain ⟨r_80, hq_81, hf⟩ := bd1_some hf
        refine kVi (id := 369) (As := []) (rest := []) X hR hS (zcX6_thrown l D cy ad ba O15 S16 _ hq_81) (cwV 0 X.2.2.2.2.2.1 gL_law_X6_thrown rfl rfl rfl kdX6_thrown ⟨(Nat.le_of_ble_eq_true rfl), (Nat.le_of_ble_eq_true rfl)⟩) (by decide) rfl rfl rfl rfl hl.1 (Nat.le_of_ble_eq_true rfl) ⟨by show _ ≤ 601024; omega, by show _ ≤ 7293034; omega⟩ dL_law_544 (fun H locs hR hS => ?_)
        refine lv_iload hx hb dL_law_547 (lv_at hl 1 rfl) ?_
        refine lv_icmp_eq (tgt := 554) hx hb dL_law_549 (by decide) (fun c_82 => ?_) (fun c_82 => ?_)
        · replace hf := ite_t c_82 hf
          refine lv_iload hx hb dL_law_554 (lv_at hl 1 rfl) ?_
          refine lv_if_ne (tgt := 571) hx hb dL_law_556 (by decide) (fun c_83 => ?_) (fun c_83 => ?_)
          · replace hf := ite_f c_83 hf
            refine lv_goto (tgt := 1848) hx hb dL_law_571 (by decide) ?_
            exact bL_law_1848 (S := S) (xs := xs) (L := L) X hl0 hX hbl hbA hba (nn := _) ih S16 O15 (v4) _ _ _ _ _ (by omega) (by omega) hR hS (lv_sub hl [2, 3, 4, 5, 6] rfl) hf
          · replace hf := ite_t c_83 hf
            refine lv_aload_n hx hb dL_law_559 rfl (lv_at hl 5 rfl) ?_
            refine lv_iconst (v := (0 : Int32)) hx hb dL_law_560 (by decide) ?_
            refine te_lald X hR dL_law_561 ?_
            refine lv_iload hx hb dL_law_562 (lv_at hl 0 rfl) ?_
            refine lv_i2l hx hb dL_law_564 rfl ?_
            refine W.lcmp hx hb dL_law_565 ?_
            refine lv_if_eq (tgt := 571) hx hb dL_law_566 (by decide) (fun c_84 => ?_) (fun c_84 => ?_)
            · replace hf := ite_t c_84 hf
              refine lv_goto (tgt := 1848) hx hb dL_law_571 (by decide) ?_
              exact bL_law_1848 (S := S) (xs := xs) (L := L) X hl0 hX hbl hbA hba (nn := _) ih S16 O15 (v4) _ _ _ _ _ (by omega) (by omega) hR hS (lv_sub hl [2, 3, 4, 5, 6] rfl) hf
            · replace hf := ite_f c_84 hf
              refine lv_iconst (v := (0 : Int32)) hx hb dL_law_569 (by decide) ?_
              exact absurd (Option.some.inj hf) (by decide)
        · replace hf := ite_f c_82 hf
          refine lv_iconst (v := (0 : Int32)) hx hb dL_law_552 (by decide) ?_
          exact absurd (Option.some.inj hf) (by decide)
      replace hf := ite_f c_72 hf
      by_cases c_85 : ((xs v4.toNatClampNeg) &&& (31 : Int32)) = (8 : Int32)
      · replace hf := ite_t c_85 hf
        refine lv_tableIn (off := 535) (tgt := 574) hx hb dL_law_39 (by rw [c_85]; decide) (by rw [c_85]; decide) (by rw [c_85]; decide) (by decide) ?_
        refine lv_aload_n hx hb dL_law_574 rfl (lv_at hl 1 rfl) ?_
        refine lv_aload_n hx hb dL_law_575 rfl (lv_at hl 0 rfl) ?_
        refine lv_iload hx hb dL_law_576 (lv_at hl 4 rfl) ?_
        refine lv_iconst (v := (1 : Int32)) hx hb dL_law_578 (by decide) ?_
        refine lv_iadd hx hb dL_law_579 ?_
        obtain ⟨h_86, hf⟩ := chk_some hf
        refine va_sld hx hb hX hbl hbA hS (tein_in h_86) dL_law_580 ?_
        refine lv_aload_n hx hb dL_law_581 rfl (lv_at hl 3 rfl) ?_
        obtain ⟨r_87, O17, S17, hq_88, hf⟩ := bd3_some hf
        refine kLw (As := [.ref (ad 360), .int (xs (v4 + (1 : Int32)).toNatClampNeg), .ref (ad 379)]) (rest := []) X hR hS (zcL_leave l D cy ad ba O1 S1 (xs (v4 + (1 : Int32)).toNatClampNeg) hl0 _ hq_88) (vx_cwSW (hh := [(0, 9, 12, 28)]) 3 X.2.2.2.2.2.1 gL_law_L_leave rfl rfl rfl kdL_leave.2 ⟨(Nat.le_of_ble_eq_true rfl), (Nat.le_of_ble_eq_true rfl)⟩) rfl rfl hl.1 (Nat.le_of_ble_eq_true rfl) ⟨by show _ ≤ 601024; omega, by show _ ≤ 7293034; omega⟩ dL_law_582 (fun H locs hR hS => ?_)
        refine lv_istore (lv' := [(5, .int r_87), (0, .ref b), (1, .ref (ad 360)), (2, .ref (ad 369)), (3, .ref (ad 379)), (4, .int v4)]) hx hb dL_law_585 hl (by decide) rfl (fun ls hl => ?_)
        refine lv_aload_n hx hb dL_law_587 rfl (lv_at hl 3 rfl) ?_
        refine lv_aload_n hx hb dL_law_588 rfl (lv_at hl 1 rfl) ?_
        refine lv_iload hx hb dL_law_589 (lv_at hl 5 rfl) ?_
        refine lv_iconst (v := (1 : Int32)) hx hb dL_law_591 (by decide) ?_
        refine lv_iadd hx hb dL_law_592 ?_
        refine va_sld hx hb hX hbl hbA hS (tein_in h_86) dL_law_593 ?_
        obtain ⟨r_89, S18, hq_90, hf⟩ := bd2_some hf
        refine kVi (id := 369) (As := [.int (xs (v4 + (1 : Int32)).toNatClampNeg)]) (rest := []) X hR hS (zcX6_leave l D cy ad ba O17 S17 (xs (v4 + (1 : Int32)).toNatClampNeg) _ _ hq_90) (cwV 1 X.2.2.2.2.2.1 gL_law_X6_leave rfl rfl rfl kdX6_leave ⟨(Nat.le_of_ble_eq_true rfl), (Nat.le_of_ble_eq_true rfl)⟩) (by decide) rfl rfl rfl rfl hl.1 (Nat.le_of_ble_eq_true rfl) ⟨by show _ ≤ 601024; omega, by show _ ≤ 7293034; omega⟩ dL_law_594 (fun H locs hR hS => ?_)
        refine lv_istore (lv' := [(6, .int r_89), (5, .int r_87), (0, .ref b), (1, .ref (ad 360)), (2, .ref (ad 369)), (3, .ref (ad 379)), (4, .int v4)]) hx hb dL_law_597 hl (by decide) rfl (fun ls hl => ?_)
        refine lv_aload_n hx hb dL_law_599 rfl (lv_at hl 4 rfl) ?_
        obtain ⟨r_91, hq_92, hf⟩ := bd1_some hf
        refine kVi (id := 369) (As := []) (rest := []) X hR hS (zcX6_thrown l D cy ad ba O17 S18 _ hq_92) (cwV 0 X.2.2.2.2.2.1 gL_law_X6_thrown rfl rfl rfl kdX6_thrown ⟨(Nat.le_of_ble_eq_true rfl), (Nat.le_of_ble_eq_true rfl)⟩) (by decide) rfl rfl rfl rfl hl.1 (Nat.le_of_ble_eq_true rfl) ⟨by show _ ≤ 601024; omega, by show _ ≤ 7293034; omega⟩ dL_law_600 (fun H locs hR hS => ?_)
        refine lv_iload hx hb dL_law_603 (lv_at hl 1 rfl) ?_
        refine lv_icmp_eq (tgt := 610) hx hb dL_law_605 (by decide) (fun c_93 => ?_) (fun c_93 => ?_)
        · replace hf := ite_t c_93 hf
          refine lv_iload hx hb dL_law_610 (lv_at hl 1 rfl) ?_
          refine lv_if_ne (tgt := 627) hx hb dL_law_612 (by decide) (fun c_94 => ?_) (fun c_94 => ?_)
          · replace hf := ite_f c_94 hf
            refine lv_goto (tgt := 1848) hx hb dL_law_627 (by decide) ?_
            exact bL_law_1848 (S := S) (xs := xs) (L := L) X hl0 hX hbl hbA hba (nn := _) ih S18 O17 (v4) _ _ _ _ _ (by omega) (by omega) hR hS (lv_sub hl [2, 3, 4, 5, 6] rfl) hf
          · replace hf := ite_t c_94 hf
            refine lv_aload_n hx hb dL_law_615 rfl (lv_at hl 5 rfl) ?_
            refine lv_iconst (v := (0 : Int32)) hx hb dL_law_616 (by decide) ?_
            refine te_lald X hR dL_law_617 ?_
            refine lv_iload hx hb dL_law_618 (lv_at hl 0 rfl) ?_
            refine lv_i2l hx hb dL_law_620 rfl ?_
            refine W.lcmp hx hb dL_law_621 ?_
            refine lv_if_eq (tgt := 627) hx hb dL_law_622 (by decide) (fun c_95 => ?_) (fun c_95 => ?_)
            · replace hf := ite_t c_95 hf
              refine lv_goto (tgt := 1848) hx hb dL_law_627 (by decide) ?_
              exact bL_law_1848 (S := S) (xs := xs) (L := L) X hl0 hX hbl hbA hba (nn := _) ih S18 O17 (v4) _ _ _ _ _ (by omega) (by omega) hR hS (lv_sub hl [2, 3, 4, 5, 6] rfl) hf
            · replace hf := ite_f c_95 hf
              refine lv_iconst (v := (0 : Int32)) hx hb dL_law_625 (by decide) ?_
              exact absurd (Option.some.inj hf) (by decide)
        · replace hf := ite_f c_93 hf
          refine lv_iconst (v := (0 : Int32)) hx hb dL_law_608 (by decide) ?_
          exact absurd (Option.some.inj hf) (by decide)
      replace hf := ite_f c_85 hf
      by_cases c_96 : ((xs v4.toNatClampNeg) &&& (31 : Int32)) = (9 : Int32)
      · replace hf := ite_t c_96 hf
        refine lv_tableIn (off := 591) (tgt := 630) hx hb dL_law_39 (by rw [c_96]; decide) (by rw [c_96]; decide) (by rw [c_96]; decide) (by decide) ?_
        refine lv_aload_n hx hb dL_law_630 rfl (lv_at hl 1 rfl) ?_
        refine lv_aload_n hx hb dL_law_631 rfl (lv_at hl 0 rfl) ?_
        refine lv_iload hx hb dL_law_632 (lv_at hl 4 rfl) ?_
        refine lv_iconst (v := (1 : Int32)) hx hb dL_law_634 (by decide) ?_
        refine lv_iadd hx hb dL_law_635 ?_
        obtain ⟨h_97, hf⟩ := chk_some hf
        refine va_sld hx hb hX hbl hbA hS (tein_in h_97) dL_law_636 ?_
        refine lv_aload_n hx hb dL_law_637 rfl (lv_at hl 0 rfl) ?_
        refine lv_iload hx hb dL_law_638 (lv_at hl 4 rfl) ?_
        refine lv_iconst (v := (2 : Int32)) hx hb dL_law_640 (by decide) ?_
        refine lv_iadd hx hb dL_law_641 ?_
        obtain ⟨h_98, hf⟩ := chk_some hf
        refine va_sld hx hb hX hbl hbA hS (tein_in h_98) dL_law_642 ?_
        refine lv_aload_n hx hb dL_law_643 rfl (lv_at hl 3 rfl) ?_
        obtain ⟨r_99, O19, S19, hq_100, hf⟩ := bd3_some hf
        refine kLw (As := [.ref (ad 360), .int (xs (v4 + (1 : Int32)).toNatClampNeg), .int (xs (v4 + (2 : Int32)).toNatClampNeg), .ref (ad 379)]) (rest := []) X hR hS (zcL_want l D cy ad ba O1 S1 (xs (v4 + (1 : Int32)).toNatClampNeg) (xs (v4 + (2 : Int32)).toNatClampNeg) hl0 _ hq_100) (vx_cwSW (hh := [(0, 10, 13, 28), (0, 10, 17, 13)]) 4 X.2.2.2.2.2.1 gL_law_L_want rfl rfl rfl kdL_want.2 ⟨(Nat.le_of_ble_eq_true rfl), (Nat.le_of_ble_eq_true rfl)⟩) rfl rfl hl.1 (Nat.le_of_ble_eq_true rfl) ⟨by show _ ≤ 601024; omega, by show _ ≤ 7293034; omega⟩ dL_law_644 (fun H locs hR hS => ?_)
        refine lv_istore (lv' := [(5, .int r_99), (0, .ref b), (1, .ref (ad 360)), (2, .ref (ad 369)), (3, .ref (ad 379)), (4, .int v4)]) hx hb dL_law_647 hl (by decide) rfl (fun ls hl => ?_)
        refine lv_aload_n hx hb dL_law_649 rfl (lv_at hl 3 rfl) ?_
        refine lv_aload_n hx hb dL_law_650 rfl (lv_at hl 1 rfl) ?_
        refine lv_iload hx hb dL_law_651 (lv_at hl 5 rfl) ?_
        refine lv_iconst (v := (1 : Int32)) hx hb dL_law_653 (by decide) ?_
        refine lv_iadd hx hb dL_law_654 ?_
        refine va_sld hx hb hX hbl hbA hS (tein_in h_97) dL_law_655 ?_
        refine lv_aload_n hx hb dL_law_656 rfl (lv_at hl 1 rfl) ?_
        refine lv_iload hx hb dL_law_657 (lv_at hl 5 rfl) ?_
        refine lv_iconst (v := (2 : Int32)) hx hb dL_law_659 (by decide) ?_
        refine lv_iadd hx hb dL_law_660 ?_
        refine va_sld hx hb hX hbl hbA hS (tein_in h_98) dL_law_661 ?_
        obtain ⟨r_101, S20, hq_102, hf⟩ := bd2_some hf
        refine kVi (id := 369) (As := [.int (xs (v4 + (1 : Int32)).toNatClampNeg), .int (xs (v4 + (2 : Int32)).toNatClampNeg)]) (rest := []) X hR hS (zcX6_want l D cy ad ba O19 S19 (xs (v4 + (1 : Int32)).toNatClampNeg) (xs (v4 + (2 : Int32)).toNatClampNeg) _ _ hq_102) (cwV 2 X.2.2.2.2.2.1 gL_law_X6_want rfl rfl rfl kdX6_want ⟨(Nat.le_of_ble_eq_true rfl), (Nat.le_of_ble_eq_true rfl)⟩) (by decide) rfl rfl rfl rfl hl.1 (Nat.le_of_ble_eq_true rfl) ⟨by show _ ≤ 601024; omega, by show _ ≤ 7293034; omega⟩ dL_law_662 (fun H locs hR hS => ?_)
        refine lv_istore (lv' := [(6, .int r_101), (5, .int r_99), (0, .ref b), (1, .ref (ad 360)), (2, .ref (ad 369)), (3, .ref (ad 379)), (4, .int v4)]) hx hb dL_law_665 hl (by decide) rfl (fun ls hl => ?_)
        refine lv_aload_n hx hb dL_law_667 rfl (lv_at hl 4 rfl) ?_
        obtain ⟨r_103, hq_104, hf⟩ := bd1_some hf
        refine kVi (id := 369) (As := []) (rest := []) X hR hS (zcX6_thrown l D cy ad ba O19 S20 _ hq_104) (cwV 0 X.2.2.2.2.2.1 gL_law_X6_thrown rfl rfl rfl kdX6_thrown ⟨(Nat.le_of_ble_eq_true rfl), (Nat.le_of_ble_eq_true rfl)⟩) (by decide) rfl rfl rfl rfl hl.1 (Nat.le_of_ble_eq_true rfl) ⟨by show _ ≤ 601024; omega, by show _ ≤ 7293034; omega⟩ dL_law_668 (fun H locs hR hS => ?_)
        refine lv_iload hx hb dL_law_671 (lv_at hl 1 rfl) ?_
        refine lv_icmp_eq (tgt := 678) hx hb dL_law_673 (by decide) (fun c_105 => ?_) (fun c_105 => ?_)
        · replace hf := ite_t c_105 hf
          refine lv_iload hx hb dL_law_678 (lv_at hl 1 rfl) ?_
          refine lv_if_ne (tgt := 695) hx hb dL_law_680 (by decide) (fun c_106 => ?_) (fun c_106 => ?_)
          · replace hf := ite_f c_106 hf
            refine lv_goto (tgt := 1848) hx hb dL_law_695 (by decide) ?_
            exact bL_law_1848 (S := S) (xs := xs) (L := L) X hl0 hX hbl hbA hba (nn := _) ih S20 O19 (v4) _ _ _ _ _ (by omega) (by omega) hR hS (lv_sub hl [2, 3, 4, 5, 6] rfl) hf
          · replace hf := ite_t c_106 hf
            refine lv_aload_n hx hb dL_law_683 rfl (lv_at hl 5 rfl) ?_
            refine lv_iconst (v := (0 : Int32)) hx hb dL_law_684 (by decide) ?_
            refine te_lald X hR dL_law_685 ?_
            refine lv_iload hx hb dL_law_686 (lv_at hl 0 rfl) ?_
            refine lv_i2l hx hb dL_law_688 rfl ?_
            refine W.lcmp hx hb dL_law_689 ?_
            refine lv_if_eq (tgt := 695) hx hb dL_law_690 (by decide) (fun c_107 => ?_) (fun c_107 => ?_)
            · replace hf := ite_t c_107 hf
              refine lv_goto (tgt := 1848) hx hb dL_law_695 (by decide) ?_
              exact bL_law_1848 (S := S) (xs := xs) (L := L) X hl0 hX hbl hbA hba (nn := _) ih S20 O19 (v4) _ _ _ _ _ (by omega) (by omega) hR hS (lv_sub hl [2, 3, 4, 5, 6] rfl) hf
            · replace hf := ite_f c_107 hf
              refine lv_iconst (v := (0 : Int32)) hx hb dL_law_693 (by decide) ?_
              exact absurd (Option.some.inj hf) (by decide)
        · replace hf := ite_f c_105 hf
          refine lv_iconst (v := (0 : Int32)) hx hb dL_law_676 (by decide) ?_
          exact absurd (Option.some.inj hf) (by decide)
      replace hf := ite_f c_96 hf
      by_cases c_108 : ((xs v4.toNatClampNeg) &&& (31 : Int32)) = (10 : Int32)
      · replace hf := ite_t c_108 hf
        refine lv_tableIn (off := 659) (tgt := 698) hx hb dL_law_39 (by rw [c_108]; decide) (by rw [c_108]; decide) (by rw [c_108]; decide) (by decide) ?_
        refine lv_aload_n hx hb dL_law_698 rfl (lv_at hl 1 rfl) ?_
        refine lv_aload_n hx hb dL_law_699 rfl (lv_at hl 0 rfl) ?_
        refine lv_iload hx hb dL_law_700 (lv_at hl 4 rfl) ?_
        refine lv_iconst (v := (1 : Int32)) hx hb dL_law_702 (by decide) ?_
        refine lv_iadd hx hb dL_law_703 ?_
        obtain ⟨h_109, hf⟩ := chk_some hf
        refine va_sld hx hb hX hbl hbA hS (tein_in h_109) dL_law_704 ?_
        refine lv_aload_n hx hb dL_law_705 rfl (lv_at hl 0 rfl) ?_
        refine lv_iload hx hb dL_law_706 (lv_at hl 4 rfl) ?_
        refine lv_iconst (v := (2 : Int32)) hx hb dL_law_708 (by decide) ?_
        refine lv_iadd hx hb dL_law_709 ?_
        obtain ⟨h_110, hf⟩ := chk_some hf
        refine va_sld hx hb hX hbl hbA hS (tein_in h_110) dL_law_710 ?_
        refine lv_aload_n hx hb dL_law_711 rfl (lv_at hl 0 rfl) ?_
        refine lv_iload hx hb dL_law_712 (lv_at hl 4 rfl) ?_
        refine lv_iconst (v := (3 : Int32)) hx hb dL_law_714 (by decide) ?_
        refine lv_iadd hx hb dL_law_715 ?_
        obtain ⟨h_111, hf⟩ := chk_some hf
        refine va_sld hx hb hX hbl hbA hS (tein_in h_111) dL_law_716 ?_
        refine lv_aload_n hx hb dL_law_717 rfl (lv_at hl 3 rfl) ?_
        obtain ⟨r_112, O21, S21, hq_113, hf⟩ := bd3_some hf
        refine kLw (As := [.ref (ad 360), .int (xs (v4 + (1 : Int32)).toNatClampNeg), .int (xs (v4 + (2 : Int32)).toNatClampNeg), .int (xs (v4 + (3 : Int32)).toNatClampNeg), .ref (ad 379)]) (rest := []) X hR hS (zcL_test l D cy ad ba O1 S1 (xs (v4 + (1 : Int32)).toNatClampNeg) (xs (v4 + (2 : Int32)).toNatClampNeg) (xs (v4 + (3 : Int32)).toNatClampNeg) hl0 _ hq_113) (vx_cwSW (hh := [(0, 12, 15, 28), (0, 12, 19, 13)]) 5 X.2.2.2.2.2.1 gL_law_L_test rfl rfl rfl kdL_test.2 ⟨(Nat.le_of_ble_eq_true rfl), (Nat.le_of_ble_eq_true rfl)⟩) rfl rfl hl.1 (Nat.le_of_ble_eq_true rfl) ⟨by show _ ≤ 601024; omega, by show _ ≤ 7293034; omega⟩ dL_law_718 (fun H locs hR hS => ?_)
        refine lv_istore (lv' := [(5, .int r_112), (0, .ref b), (1, .ref (ad 360)), (2, .ref (ad 369)), (3, .ref (ad 379)), (4, .int v4)]) hx hb dL_law_721 hl (by decide) rfl (fun ls hl => ?_)
        refine lv_aload_n hx hb dL_law_723 rfl (lv_at hl 3 rfl) ?_
        refine lv_aload_n hx hb dL_law_724 rfl (lv_at hl 1 rfl) ?_
        refine lv_iload hx hb dL_law_725 (lv_at hl 5 rfl) ?_
        refine lv_iconst (v := (1 : Int32)) hx hb dL_law_727 (by decide) ?_
        refine lv_iadd hx hb dL_law_728 ?_
        refine va_sld hx hb hX hbl hbA hS (tein_in h_109) dL_law_729 ?_
        refine lv_aload_n hx hb dL_law_730 rfl (lv_at hl 1 rfl) ?_
        refine lv_iload hx hb dL_law_731 (lv_at hl 5 rfl) ?_
        refine lv_iconst (v := (2 : Int32)) hx hb dL_law_733 (by decide) ?_
        refine lv_iadd hx hb dL_law_734 ?_
        refine va_sld hx hb hX hbl hbA hS (tein_in h_110) dL_law_735 ?_
        refine lv_aload_n hx hb dL_law_736 rfl (lv_at hl 1 rfl) ?_
        refine lv_iload hx hb dL_law_737 (lv_at hl 5 rfl) ?_
        refine lv_iconst (v := (3 : Int32)) hx hb dL_law_739 (by decide) ?_
        refine lv_iadd hx hb dL_law_740 ?_
        refine va_sld hx hb hX hbl hbA hS (tein_in h_111) dL_law_741 ?_
        obtain ⟨r_114, S22, hq_115, hf⟩ := bd2_some hf
        refine kVi (id := 369) (As := [.int (xs (v4 + (1 : Int32)).toNatClampNeg), .int (xs (v4 + (2 : Int32)).toNatClampNeg), .int (xs (v4 + (3 : Int32)).toNatClampNeg)]) (rest := []) X hR hS (zcX6_test l D cy ad ba O21 S21 (xs (v4 + (1 : Int32)).toNatClampNeg) (xs (v4 + (2 : Int32)).toNatClampNeg) (xs (v4 + (3 : Int32)).toNatClampNeg) _ _ hq_115) (cwV 3 X.2.2.2.2.2.1 gL_law_X6_test rfl rfl rfl kdX6_test ⟨(Nat.le_of_ble_eq_true rfl), (Nat.le_of_ble_eq_true rfl)⟩) (by decide) rfl rfl rfl rfl hl.1 (Nat.le_of_ble_eq_true rfl) ⟨by show _ ≤ 601024; omega, by show _ ≤ 7293034; omega⟩ dL_law_742 (fun H locs hR hS => ?_)
        refine lv_istore (lv' := [(6, .int r_114), (5, .int r_112), (0, .ref b), (1, .ref (ad 360)), (2, .ref (ad 369)), (3, .ref (ad 379)), (4, .int v4)]) hx hb dL_law_745 hl (by decide) rfl (fun ls hl => ?_)
        refine lv_aload_n hx hb dL_law_747 rfl (lv_at hl 4 rfl) ?_
        obtain ⟨r_116, hq_117, hf⟩ := bd1_some hf
        refine kVi (id := 369) (As := []) (rest := []) X hR hS (zcX6_thrown l D cy ad ba O21 S22 _ hq_117) (cwV 0 X.2.2.2.2.2.1 gL_law_X6_thrown rfl rfl rfl kdX6_thrown ⟨(Nat.le_of_ble_eq_true rfl), (Nat.le_of_ble_eq_true rfl)⟩) (by decide) rfl rfl rfl rfl hl.1 (Nat.le_of_ble_eq_true rfl) ⟨by show _ ≤ 601024; omega, by show _ ≤ 7293034; omega⟩ dL_law_748 (fun H locs hR hS => ?_)
        refine lv_iload hx hb dL_law_751 (lv_at hl 1 rfl) ?_
        refine lv_icmp_eq (tgt := 758) hx hb dL_law_753 (by decide) (fun c_118 => ?_) (fun c_118 => ?_)
        · replace hf := ite_t c_118 hf
          refine lv_iload hx hb dL_law_758 (lv_at hl 1 rfl) ?_
          refine lv_if_ne (tgt := 775) hx hb dL_law_760 (by decide) (fun c_119 => ?_) (fun c_119 => ?_)
          · replace hf := ite_f c_119 hf
            refine lv_goto (tgt := 1848) hx hb dL_law_775 (by decide) ?_
            exact bL_law_1848 (S := S) (xs := xs) (L := L) X hl0 hX hbl hbA hba (nn := _) ih S22 O21 (v4) _ _ _ _ _ (by omega) (by omega) hR hS (lv_sub hl [2, 3, 4, 5, 6] rfl) hf
          · replace hf := ite_t c_119 hf
            refine lv_aload_n hx hb dL_law_763 rfl (lv_at hl 5 rfl) ?_
            refine lv_iconst (v := (0 : Int32)) hx hb dL_law_764 (by decide) ?_
            refine te_lald X hR dL_law_765 ?_
            refine lv_iload hx hb dL_law_766 (lv_at hl 0 rfl) ?_
            refine lv_i2l hx hb dL_law_768 rfl ?_
            refine W.lcmp hx hb dL_law_769 ?_
            refine lv_if_eq (tgt := 775) hx hb dL_law_770 (by decide) (fun c_120 => ?_) (fun c_120 => ?_)
            · replace hf := ite_t c_120 hf
              refine lv_goto (tgt := 1848) hx hb dL_law_775 (by decide) ?_
              exact bL_law_1848 (S := S) (xs := xs) (L := L) X hl0 hX hbl hbA hba (nn := _) ih S22 O21 (v4) _ _ _ _ _ (by omega) (by omega) hR hS (lv_sub hl [2, 3, 4, 5, 6] rfl) hf
            · replace hf := ite_f c_120 hf
              refine lv_iconst (v := (0 : Int32)) hx hb dL_law_773 (by decide) ?_
              exact absurd (Option.some.inj hf) (by decide)
        · replace hf := ite_f c_118 hf
          refine lv_iconst (v := (0 : Int32)) hx hb dL_law_756 (by decide) ?_
          exact absurd (Option.some.inj hf) (by decide)
      replace hf := ite_f c_108 hf
      by_cases c_121 : ((xs v4.toNatClampNeg) &&& (31 : Int32)) = (11 : Int32)
      · replace hf := ite_t c_121 hf
        refine lv_tableIn (off := 739) (tgt := 778) hx hb dL_law_39 (by rw [c_121]; decide) (by rw [c_121]; decide) (by rw [c_121]; decide) (by decide) ?_
        refine lv_aload_n hx hb dL_law_778 rfl (lv_at hl 1 rfl) ?_
        refine lv_aload_n hx hb dL_law_779 rfl (lv_at hl 0 rfl) ?_
        refine lv_iload hx hb dL_law_780 (lv_at hl 4 rfl) ?_
        refine lv_iconst (v := (1 : Int32)) hx hb dL_law_782 (by decide) ?_
        refine lv_iadd hx hb dL_law_783 ?_
        obtain ⟨h_122, hf⟩ := chk_some hf
        refine va_sld hx hb hX hbl hbA hS (tein_in h_122) dL_law_784 ?_
        refine lv_aload_n hx hb dL_law_785 rfl (lv_at hl 0 rfl) ?_
        refine lv_iload hx hb dL_law_786 (lv_at hl 4 rfl) ?_
        refine lv_iconst (v := (2 : Int32)) hx hb dL_law_788 (by decide) ?_
        refine lv_iadd hx hb dL_law_789 ?_
        obtain ⟨h_123, hf⟩ := chk_some hf
        refine va_sld hx hb hX hbl hbA hS (tein_in h_123) dL_law_790 ?_
        refine lv_aload_n hx hb dL_law_791 rfl (lv_at hl 3 rfl) ?_
        obtain ⟨r_124, O23, S23, hq_125, hf⟩ := bd3_some hf
        refine kLw (As := [.ref (ad 360), .int (xs (v4 + (1 : Int32)).toNatClampNeg), .int (xs (v4 + (2 : Int32)).toNatClampNeg), .ref (ad 379)]) (rest := []) X hR hS (zcL_pair l D cy ad ba O1 S1 (xs (v4 + (1 : Int32)).toNatClampNeg) (xs (v4 + (2 : Int32)).toNatClampNeg) hl0 _ hq_125) (vx_cwSW (hh := [(0, 10, 13, 28), (0, 10, 17, 13), (0, 10, 21, 15)]) 4 X.2.2.2.2.2.1 gL_law_L_pair rfl rfl rfl kdL_pair.2 ⟨(Nat.le_of_ble_eq_true rfl), (Nat.le_of_ble_eq_true rfl)⟩) rfl rfl hl.1 (Nat.le_of_ble_eq_true rfl) ⟨by show _ ≤ 601024; omega, by show _ ≤ 7293034; omega⟩ dL_law_792 (fun H locs hR hS => ?_)
        refine lv_istore (lv' := [(5, .int r_124), (0, .ref b), (1, .ref (ad 360)), (2, .ref (ad 369)), (3, .ref (ad 379)), (4, .int v4)]) hx hb dL_law_795 hl (by decide) rfl (fun ls hl => ?_)
        refine lv_aload_n hx hb dL_law_797 rfl (lv_at hl 3 rfl) ?_
        refine lv_aload_n hx hb dL_law_798 rfl (lv_at hl 1 rfl) ?_
        refine lv_iload hx hb dL_law_799 (lv_at hl 5 rfl) ?_
        refine lv_iconst (v := (1 : Int32)) hx hb dL_law_801 (by decide) ?_
        refine lv_iadd hx hb dL_law_802 ?_
        refine va_sld hx hb hX hbl hbA hS (tein_in h_122) dL_law_803 ?_
        refine lv_aload_n hx hb dL_law_804 rfl (lv_at hl 1 rfl) ?_
        refine lv_iload hx hb dL_law_805 (lv_at hl 5 rfl) ?_
        refine lv_iconst (v := (2 : Int32)) hx hb dL_law_807 (by decide) ?_
        refine lv_iadd hx hb dL_law_808 ?_
        refine va_sld hx hb hX hbl hbA hS (tein_in h_123) dL_law_809 ?_
        obtain ⟨r_126, S24, hq_127, hf⟩ := bd2_some hf
        refine kVi (id := 369) (As := [.int (xs (v4 + (1 : Int32)).toNatClampNeg), .int (xs (v4 + (2 : Int32)).toNatClampNeg)]) (rest := []) X hR hS (zcX6_pair l D cy ad ba O23 S23 (xs (v4 + (1 : Int32)).toNatClampNeg) (xs (v4 + (2 : Int32)).toNatClampNeg) _ _ hq_127) (cwV 2 X.2.2.2.2.2.1 gL_law_X6_pair rfl rfl rfl kdX6_pair ⟨(Nat.le_of_ble_eq_true rfl), (Nat.le_of_ble_eq_true rfl)⟩) (by decide) rfl rfl rfl rfl hl.1 (Nat.le_of_ble_eq_true rfl) ⟨by show _ ≤ 601024; omega, by show _ ≤ 7293034; omega⟩ dL_law_810 (fun H locs hR hS => ?_)
        refine lv_istore (lv' := [(6, .int r_126), (5, .int r_124), (0, .ref b), (1, .ref (ad 360)), (2, .ref (ad 369)), (3, .ref (ad 379)), (4, .int v4)]) hx hb dL_law_813 hl (by decide) rfl (fun ls hl => ?_)
        refine lv_aload_n hx hb dL_law_815 rfl (lv_at hl 4 rfl) ?_
        obtain ⟨r_128, hq_129, hf⟩ := bd1_some hf
        refine kVi (id := 369) (As := []) (rest := []) X hR hS (zcX6_thrown l D cy ad ba O23 S24 _ hq_129) (cwV 0 X.2.2.2.2.2.1 gL_law_X6_thrown rfl rfl rfl kdX6_thrown ⟨(Nat.le_of_ble_eq_true rfl), (Nat.le_of_ble_eq_true rfl)⟩) (by decide) rfl rfl rfl rfl hl.1 (Nat.le_of_ble_eq_true rfl) ⟨by show _ ≤ 601024; omega, by show _ ≤ 7293034; omega⟩ dL_law_816 (fun H locs hR hS => ?_)
        refine lv_iload hx hb dL_law_819 (lv_at hl 1 rfl) ?_
        refine lv_icmp_eq (tgt := 826) hx hb dL_law_821 (by decide) (fun c_130 => ?_) (fun c_130 => ?_)
        · replace hf := ite_t c_130 hf
          refine lv_iload hx hb dL_law_826 (lv_at hl 1 rfl) ?_
          refine lv_if_ne (tgt := 843) hx hb dL_law_828 (by decide) (fun c_131 => ?_) (fun c_131 => ?_)
          · replace hf := ite_f c_131 hf
            refine lv_goto (tgt := 1848) hx hb dL_law_843 (by decide) ?_
            exact bL_law_1848 (S := S) (xs := xs) (L := L) X hl0 hX hbl hbA hba (nn := _) ih S24 O23 (v4) _ _ _ _ _ (by omega) (by omega) hR hS (lv_sub hl [2, 3, 4, 5, 6] rfl) hf
          · replace hf := ite_t c_131 hf
            refine lv_aload_n hx hb dL_law_831 rfl (lv_at hl 5 rfl) ?_
            refine lv_iconst (v := (0 : Int32)) hx hb dL_law_832 (by decide) ?_
            refine te_lald X hR dL_law_833 ?_
            refine lv_iload hx hb dL_law_834 (lv_at hl 0 rfl) ?_
            refine lv_i2l hx hb dL_law_836 rfl ?_
            refine W.lcmp hx hb dL_law_837 ?_
            refine lv_if_eq (tgt := 843) hx hb dL_law_838 (by decide) (fun c_132 => ?_) (fun c_132 => ?_)
            · replace hf := ite_t c_132 hf
              refine lv_goto (tgt := 1848) hx hb dL_law_843 (by decide) ?_
              exact bL_law_1848 (S := S) (xs := xs) (L := L) X hl0 hX hbl hbA hba (nn := _) ih S24 O23 (v4) _ _ _ _ _ (by omega) (by omega) hR hS (lv_sub hl [2, 3, 4, 5, 6] rfl) hf
            · replace hf := ite_f c_132 hf
              refine lv_iconst (v := (0 : Int32)) hx hb dL_law_841 (by decide) ?_
              exact absurd (Option.some.inj hf) (by decide)
        · replace hf := ite_f c_130 hf
          refine lv_iconst (v := (0 : Int32)) hx hb dL_law_824 (by decide) ?_
          exact absurd (Option.some.inj hf) (by decide)
      replace hf := ite_f c_121 hf
      by_cases c_133 : ((xs v4.toNatClampNeg) &&& (31 : Int32)) = (12 : Int32)
      · replace hf := ite_t c_133 hf
        refine lv_tableIn (off := 807) (tgt := 846) hx hb dL_law_39 (by rw [c_133]; decide) (by rw [c_133]; decide) (by rw [c_133]; decide) (by decide) ?_
        refine lv_aload_n hx hb dL_law_846 rfl (lv_at hl 1 rfl) ?_
        refine lv_aload_n hx hb dL_law_847 rfl (lv_at hl 0 rfl) ?_
        refine lv_iload hx hb dL_law_848 (lv_at hl 4 rfl) ?_
        refine lv_iconst (v := (1 : Int32)) hx hb dL_law_850 (by decide) ?_
        refine lv_iadd hx hb dL_law_851 ?_
        obtain ⟨h_134, hf⟩ := chk_some hf
        refine va_sld hx hb hX hbl hbA hS (tein_in h_134) dL_law_852 ?_
        refine lv_aload_n hx hb dL_law_853 rfl (lv_at hl 3 rfl) ?_
        obtain ⟨r_135, O25, S25, hq_136, hf⟩ := bd3_some hf
        refine kLw (As := [.ref (ad 360), .int (xs (v4 + (1 : Int32)).toNatClampNeg), .ref (ad 379)]) (rest := []) X hR hS (zcL_part l D cy ad ba O1 S1 (xs (v4 + (1 : Int32)).toNatClampNeg) hl0 _ hq_136) (vx_cwSW (hh := [(0, 9, 12, 28), (0, 9, 15, 15)]) 3 X.2.2.2.2.2.1 gL_law_L_part rfl rfl rfl kdL_part.2 ⟨(Nat.le_of_ble_eq_true rfl), (Nat.le_of_ble_eq_true rfl)⟩) rfl rfl hl.1 (Nat.le_of_ble_eq_true rfl) ⟨by show _ ≤ 601024; omega, by show _ ≤ 7293034; omega⟩ dL_law_854 (fun H locs hR hS => ?_)
        refine lv_istore (lv' := [(5, .int r_135), (0, .ref b), (1, .ref (ad 360)), (2, .ref (ad 369)), (3, .ref (ad 379)), (4, .int v4)]) hx hb dL_law_857 hl (by decide) rfl (fun ls hl => ?_)
        refine lv_aload_n hx hb dL_law_859 rfl (lv_at hl 3 rfl) ?_
        refine lv_aload_n hx hb dL_law_860 rfl (lv_at hl 1 rfl) ?_
        refine lv_iload hx hb dL_law_861 (lv_at hl 5 rfl) ?_
        refine lv_iconst (v := (1 : Int32)) hx hb dL_law_863 (by decide) ?_
        refine lv_iadd hx hb dL_law_864 ?_
        refine va_sld hx hb hX hbl hbA hS (tein_in h_134) dL_law_865 ?_
        obtain ⟨r_137, S26, hq_138, hf⟩ := bd2_some hf
        refine kVi (id := 369) (As := [.int (xs (v4 + (1 : Int32)).toNatClampNeg)]) (rest := []) X hR hS (zcX6_part l D cy ad ba O25 S25 (xs (v4 + (1 : Int32)).toNatClampNeg) _ _ hq_138) (cwV 1 X.2.2.2.2.2.1 gL_law_X6_part rfl rfl rfl kdX6_part ⟨(Nat.le_of_ble_eq_true rfl), (Nat.le_of_ble_eq_true rfl)⟩) (by decide) rfl rfl rfl rfl hl.1 (Nat.le_of_ble_eq_true rfl) ⟨by show _ ≤ 601024; omega, by show _ ≤ 7293034; omega⟩ dL_law_866 (fun H locs hR hS => ?_)
        refine lv_istore (lv' := [(6, .int r_137), (5, .int r_135), (0, .ref b), (1, .ref (ad 360)), (2, .ref (ad 369)), (3, .ref (ad 379)), (4, .int v4)]) hx hb dL_law_869 hl (by decide) rfl (fun ls hl => ?_)
        refine lv_aload_n hx hb dL_law_871 rfl (lv_at hl 4 rfl) ?_
        obtain ⟨r_139, hq_140, hf⟩ := bd1_some hf
        refine kVi (id := 369) (As := []) (rest := []) X hR hS (zcX6_thrown l D cy ad ba O25 S26 _ hq_140) (cwV 0 X.2.2.2.2.2.1 gL_law_X6_thrown rfl rfl rfl kdX6_thrown ⟨(Nat.le_of_ble_eq_true rfl), (Nat.le_of_ble_eq_true rfl)⟩) (by decide) rfl rfl rfl rfl hl.1 (Nat.le_of_ble_eq_true rfl) ⟨by show _ ≤ 601024; omega, by show _ ≤ 7293034; omega⟩ dL_law_872 (fun H locs hR hS => ?_)
        refine lv_iload hx hb dL_law_875 (lv_at hl 1 rfl) ?_
        refine lv_icmp_eq (tgt := 882) hx hb dL_law_877 (by decide) (fun c_141 => ?_) (fun c_141 => ?_)
        · replace hf := ite_t c_141 hf
          refine lv_iload hx hb dL_law_882 (lv_at hl 1 rfl) ?_
          refine lv_if_ne (tgt := 899) hx hb dL_law_884 (by decide) (fun c_142 => ?_) (fun c_142 => ?_)
          · replace hf := ite_f c_142 hf
            refine lv_goto (tgt := 1848) hx hb dL_law_899 (by decide) ?_
            exact bL_law_1848 (S := S) (xs := xs) (L := L) X hl0 hX hbl hbA hba (nn := _) ih S26 O25 (v4) _ _ _ _ _ (by omega) (by omega) hR hS (lv_sub hl [2, 3, 4, 5, 6] rfl) hf
          · replace hf := ite_t c_142 hf
            refine lv_aload_n hx hb dL_law_887 rfl (lv_at hl 5 rfl) ?_
            refine lv_iconst (v := (0 : Int32)) hx hb dL_law_888 (by decide) ?_
            refine te_lald X hR dL_law_889 ?_
            refine lv_iload hx hb dL_law_890 (lv_at hl 0 rfl) ?_
            refine lv_i2l hx hb dL_law_892 rfl ?_
            refine W.lcmp hx hb dL_law_893 ?_
            refine lv_if_eq (tgt := 899) hx hb dL_law_894 (by decide) (fun c_143 => ?_) (fun c_143 => ?_)
            · replace hf := ite_t c_143 hf
              refine lv_goto (tgt := 1848) hx hb dL_law_899 (by decide) ?_
              exact bL_law_1848 (S := S) (xs := xs) (L := L) X hl0 hX hbl hbA hba (nn := _) ih S26 O25 (v4) _ _ _ _ _ (by omega) (by omega) hR hS (lv_sub hl [2, 3, 4, 5, 6] rfl) hf
            · replace hf := ite_f c_143 hf
              refine lv_iconst (v := (0 : Int32)) hx hb dL_law_897 (by decide) ?_
              exact absurd (Option.some.inj hf) (by decide)
        · replace hf := ite_f c_141 hf
          refine lv_iconst (v := (0 : Int32)) hx hb dL_law_880 (by decide) ?_
          exact absurd (Option.some.inj hf) (by decide)
      replace hf := ite_f c_133 hf
      by_cases c_144 : ((xs v4.toNatClampNeg) &&& (31 : Int32)) = (13 : Int32)
      · replace hf := ite_t c_144 hf
        refine lv_tableIn (off := 863) (tgt := 902) hx hb dL_law_39 (by rw [c_144]; decide) (by rw [c_144]; decide) (by rw [c_144]; decide) (by decide) ?_
        refine lv_aload_n hx hb dL_law_902 rfl (lv_at hl 1 rfl) ?_
        obtain ⟨r_145, S27, hq_146, hf⟩ := bd2_some hf
        refine kVi (id := 360) (As := []) (rest := []) X hR hS (zcX5_match l D cy ad ba O1 S1 _ _ hq_146) (cwV 0 X.2.2.2.2.2.1 gL_law_X5_match rfl rfl rfl kdX5_match ⟨(Nat.le_of_ble_eq_true rfl), (Nat.le_of_ble_eq_true rfl)⟩) (by decide) rfl rfl rfl rfl hl.1 (Nat.le_of_ble_eq_true rfl) ⟨by show _ ≤ 601024; omega, by show _ ≤ 7293034; omega⟩ dL_law_903 (fun H locs hR hS => ?_)
        refine lv_aload_n hx hb dL_law_906 rfl (lv_at hl 2 rfl) ?_
        obtain ⟨r_147, S28, hq_148, hf⟩ := bd2_some hf
        refine kVi (id := 369) (As := []) (rest := [.int r_145]) X hR hS (zcX6_match l D cy ad ba O1 S27 _ _ hq_148) (cwV 0 X.2.2.2.2.2.1 gL_law_X6_match rfl rfl rfl kdX6_match ⟨(Nat.le_of_ble_eq_true rfl), (Nat.le_of_ble_eq_true rfl)⟩) (by decide) rfl rfl rfl rfl hl.1 (Nat.le_of_ble_eq_true rfl) ⟨by show _ ≤ 601024; omega, by show _ ≤ 7293034; omega⟩ dL_law_907 (fun H locs hR hS => ?_)
        refine lv_icmp_eq (tgt := 1848) hx hb dL_law_910 (by decide) (fun c_149 => ?_) (fun c_149 => ?_)
        · replace hf := ite_t c_149 hf
          exact bL_law_1848 (S := S) (xs := xs) (L := L) X hl0 hX hbl hbA hba (nn := _) ih S28 O1 (v4) _ _ _ _ _ (by omega) (by omega) hR hS (lv_sub hl [0, 1, 2, 3, 4] rfl) hf
        · replace hf := ite_f c_149 hf
          refine lv_iconst (v := (0 : Int32)) hx hb dL_law_913 (by decide) ?_
          exact absurd (Option.some.inj hf) (by decide)
      replace hf := ite_f c_144 hf
      by_cases c_150 : ((xs v4.toNatClampNeg) &&& (31 : Int32)) = (14 : Int32)
      · replace hf := ite_t c_150 hf
        refine lv_tableIn (off := 876) (tgt := 915) hx hb dL_law_39 (by rw [c_150]; decide) (by rw [c_150]; decide) (by rw [c_150]; decide) (by decide) ?_
        refine lv_aload_n hx hb dL_law_915 rfl (lv_at hl 1 rfl) ?_
        refine lv_aload_n hx hb dL_law_916 rfl (lv_at hl 0 rfl) ?_
        refine lv_iload hx hb dL_law_917 (lv_at hl 4 rfl) ?_
        refine lv_iconst (v := (1 : Int32)) hx hb dL_law_919 (by decide) ?_
        refine lv_iadd hx hb dL_law_920 ?_
        obtain ⟨h_151, hf⟩ := chk_some hf
        refine va_sld hx hb hX hbl hbA hS (tein_in h_151) dL_law_921 ?_
        refine lv_aload_n hx hb dL_law_922 rfl (lv_at hl 3 rfl) ?_
        obtain ⟨r_152, O29, S29, hq_153, hf⟩ := bd3_some hf
        refine kLw (As := [.ref (ad 360), .int (xs (v4 + (1 : Int32)).toNatClampNeg), .ref (ad 379)]) (rest := []) X hR hS (zcL_settle l D cy ad ba O1 S1 (xs (v4 + (1 : Int32)).toNatClampNeg) hl0 _ hq_153) (vx_cwSW (hh := [(0, 9, 12, 13)]) 3 X.2.2.2.2.2.1 gL_law_L_settle rfl rfl rfl kdL_settle.2 ⟨(Nat.le_of_ble_eq_true rfl), (Nat.le_of_ble_eq_true rfl)⟩) rfl rfl hl.1 (Nat.le_of_ble_eq_true rfl) ⟨by show _ ≤ 601024; omega, by show _ ≤ 7293034; omega⟩ dL_law_923 (fun H locs hR hS => ?_)
        refine lv_istore (lv' := [(5, .int r_152), (0, .ref b), (1, .ref (ad 360)), (2, .ref (ad 369)), (3, .ref (ad 379)), (4, .int v4)]) hx hb dL_law_926 hl (by decide) rfl (fun ls hl => ?_)
        refine lv_aload_n hx hb dL_law_928 rfl (lv_at hl 3 rfl) ?_
        refine lv_aload_n hx hb dL_law_929 rfl (lv_at hl 1 rfl) ?_
        refine lv_iload hx hb dL_law_930 (lv_at hl 5 rfl) ?_
        refine lv_iconst (v := (1 : Int32)) hx hb dL_law_932 (by decide) ?_
        refine lv_iadd hx hb dL_law_933 ?_
        refine va_sld hx hb hX hbl hbA hS (tein_in h_151) dL_law_934 ?_
        obtain ⟨r_154, S30, hq_155, hf⟩ := bd2_some hf
        refine kVi (id := 369) (As := [.int (xs (v4 + (1 : Int32)).toNatClampNeg)]) (rest := []) X hR hS (zcX6_settle l D cy ad ba O29 S29 (xs (v4 + (1 : Int32)).toNatClampNeg) _ _ hq_155) (cwV 1 X.2.2.2.2.2.1 gL_law_X6_settle rfl rfl rfl kdX6_settle ⟨(Nat.le_of_ble_eq_true rfl), (Nat.le_of_ble_eq_true rfl)⟩) (by decide) rfl rfl rfl rfl hl.1 (Nat.le_of_ble_eq_true rfl) ⟨by show _ ≤ 601024; omega, by show _ ≤ 7293034; omega⟩ dL_law_935 (fun H locs hR hS => ?_)
        refine lv_istore (lv' := [(6, .int r_154), (5, .int r_152), (0, .ref b), (1, .ref (ad 360)), (2, .ref (ad 369)), (3, .ref (ad 379)), (4, .int v4)]) hx hb dL_law_938 hl (by decide) rfl (fun ls hl => ?_)
        refine lv_aload_n hx hb dL_law_940 rfl (lv_at hl 4 rfl) ?_
        obtain ⟨r_156, hq_157, hf⟩ := bd1_some hf
        refine kVi (id := 369) (As := []) (rest := []) X hR hS (zcX6_thrown l D cy ad ba O29 S30 _ hq_157) (cwV 0 X.2.2.2.2.2.1 gL_law_X6_thrown rfl rfl rfl kdX6_thrown ⟨(Nat.le_of_ble_eq_true rfl), (Nat.le_of_ble_eq_true rfl)⟩) (by decide) rfl rfl rfl rfl hl.1 (Nat.le_of_ble_eq_true rfl) ⟨by show _ ≤ 601024; omega, by show _ ≤ 7293034; omega⟩ dL_law_941 (fun H locs hR hS => ?_)
        refine lv_iload hx hb dL_law_944 (lv_at hl 1 rfl) ?_
        refine lv_icmp_eq (tgt := 951) hx hb dL_law_946 (by decide) (fun c_158 => ?_) (fun c_158 => ?_)
        · replace hf := ite_t c_158 hf
          refine lv_iload hx hb dL_law_951 (lv_at hl 1 rfl) ?_
          refine lv_if_ne (tgt := 968) hx hb dL_law_953 (by decide) (fun c_159 => ?_) (fun c_159 => ?_)
          · replace hf := ite_f c_159 hf
            refine lv_goto (tgt := 1848) hx hb dL_law_968 (by decide) ?_
            exact bL_law_1848 (S := S) (xs := xs) (L := L) X hl0 hX hbl hbA hba (nn := _) ih S30 O29 (v4) _ _ _ _ _ (by omega) (by omega) hR hS (lv_sub hl [2, 3, 4, 5, 6] rfl) hf
          · replace hf := ite_t c_159 hf
            refine lv_aload_n hx hb dL_law_956 rfl (lv_at hl 5 rfl) ?_
            refine lv_iconst (v := (0 : Int32)) hx hb dL_law_957 (by decide) ?_
            refine te_lald X hR dL_law_958 ?_
            refine lv_iload hx hb dL_law_959 (lv_at hl 0 rfl) ?_
            refine lv_i2l hx hb dL_law_961 rfl ?_
            refine W.lcmp hx hb dL_law_962 ?_
            refine lv_if_eq (tgt := 968) hx hb dL_law_963 (by decide) (fun c_160 => ?_) (fun c_160 => ?_)
            · replace hf := ite_t c_160 hf
              refine lv_goto (tgt := 1848) hx hb dL_law_968 (by decide) ?_
              exact bL_law_1848 (S := S) (xs := xs) (L := L) X hl0 hX hbl hbA hba (nn := _) ih S30 O29 (v4) _ _ _ _ _ (by omega) (by omega) hR hS (lv_sub hl [2, 3, 4, 5, 6] rfl) hf
            · replace hf := ite_f c_160 hf
              refine lv_iconst (v := (0 : Int32)) hx hb dL_law_966 (by decide) ?_
              exact absurd (Option.some.inj hf) (by decide)
        · replace hf := ite_f c_158 hf
          refine lv_iconst (v := (0 : Int32)) hx hb dL_law_949 (by decide) ?_
          exact absurd (Option.some.inj hf) (by decide)
      replace hf := ite_f c_150 hf
      by_cases c_161 : ((xs v4.toNatClampNeg) &&& (31 : Int32)) = (15 : Int32)
      · replace hf := ite_t c_161 hf
        refine lv_tableIn (off := 932) (tgt := 971) hx hb dL_law_39 (by rw [c_161]; decide) (by rw [c_161]; decide) (by rw [c_161]; decide) (by decide) ?_
        refine lv_aload_n hx hb dL_law_971 rfl (lv_at hl 1 rfl) ?_
        refine lv_aload_n hx hb dL_law_972 rfl (lv_at hl 0 rfl) ?_
        refine lv_iload hx hb dL_law_973 (lv_at hl 4 rfl) ?_
        refine lv_iconst (v := (1 : Int32)) hx hb dL_law_975 (by decide) ?_
        refine lv_iadd hx hb dL_law_976 ?_
        obtain ⟨h_162, hf⟩ := chk_some hf
        refine va_sld hx hb hX hbl hbA hS (tein_in h_162) dL_law_977 ?_
        refine lv_aload_n hx hb dL_law_978 rfl (lv_at hl 3 rfl) ?_
        obtain ⟨r_163, O31, S31, hq_164, hf⟩ := bd3_some hf
        refine kLw (As := [.ref (ad 360), .int (xs (v4 + (1 : Int32)).toNatClampNeg), .ref (ad 379)]) (rest := []) X hR hS (zcL_week l D cy ad ba O1 S1 (xs (v4 + (1 : Int32)).toNatClampNeg) hl0 _ hq_164) (vx_cwSW (hh := [(0, 9, 12, 13)]) 3 X.2.2.2.2.2.1 gL_law_L_week rfl rfl rfl kdL_week.2 ⟨(Nat.le_of_ble_eq_true rfl), (Nat.le_of_ble_eq_true rfl)⟩) rfl rfl hl.1 (Nat.le_of_ble_eq_true rfl) ⟨by show _ ≤ 601024; omega, by show _ ≤ 7293034; omega⟩ dL_law_979 (fun H locs hR hS => ?_)
        refine lv_istore (lv' := [(5, .int r_163), (0, .ref b), (1, .ref (ad 360)), (2, .ref (ad 369)), (3, .ref (ad 379)), (4, .int v4)]) hx hb dL_law_982 hl (by decide) rfl (fun ls hl => ?_)
        refine lv_aload_n hx hb dL_law_984 rfl (lv_at hl 3 rfl) ?_
        refine lv_aload_n hx hb dL_law_985 rfl (lv_at hl 1 rfl) ?_
        refine lv_iload hx hb dL_law_986 (lv_at hl 5 rfl) ?_
        refine lv_iconst (v := (1 : Int32)) hx hb dL_law_988 (by decide) ?_
        refine lv_iadd hx hb dL_law_989 ?_
        refine va_sld hx hb hX hbl hbA hS (tein_in h_162) dL_law_990 ?_
        obtain ⟨r_165, S32, hq_166, hf⟩ := bd2_some hf
        refine kVi (id := 369) (As := [.int (xs (v4 + (1 : Int32)).toNatClampNeg)]) (rest := []) X hR hS (zcX6_week l D cy ad ba O31 S31 (xs (v4 + (1 : Int32)).toNatClampNeg) _ _ hq_166) (cwV 1 X.2.2.2.2.2.1 gL_law_X6_week rfl rfl rfl kdX6_week ⟨(Nat.le_of_ble_eq_true rfl), (Nat.le_of_ble_eq_true rfl)⟩) (by decide) rfl rfl rfl rfl hl.1 (Nat.le_of_ble_eq_true rfl) ⟨by show _ ≤ 601024; omega, by show _ ≤ 7293034; omega⟩ dL_law_991 (fun H locs hR hS => ?_)
        refine lv_istore (lv' := [(6, .int r_165), (5, .int r_163), (0, .ref b), (1, .ref (ad 360)), (2, .ref (ad 369)), (3, .ref (ad 379)), (4, .int v4)]) hx hb dL_law_994 hl (by decide) rfl (fun ls hl => ?_)
        refine lv_aload_n hx hb dL_law_996 rfl (lv_at hl 4 rfl) ?_
        obtain ⟨r_167, hq_168, hf⟩ := bd1_some hf
        refine kVi (id := 369) (As := []) (rest := []) X hR hS (zcX6_thrown l D cy ad ba O31 S32 _ hq_168) (cwV 0 X.2.2.2.2.2.1 gL_law_X6_thrown rfl rfl rfl kdX6_thrown ⟨(Nat.le_of_ble_eq_true rfl), (Nat.le_of_ble_eq_true rfl)⟩) (by decide) rfl rfl rfl rfl hl.1 (Nat.le_of_ble_eq_true rfl) ⟨by show _ ≤ 601024; omega, by show _ ≤ 7293034; omega⟩ dL_law_997 (fun H locs hR hS => ?_)
        refine lv_iload hx hb dL_law_1000 (lv_at hl 1 rfl) ?_
        refine lv_icmp_eq (tgt := 1007) hx hb dL_law_1002 (by decide) (fun c_169 => ?_) (fun c_169 => ?_)
        · replace hf := ite_t c_169 hf
          refine lv_iload hx hb dL_law_1007 (lv_at hl 1 rfl) ?_
          refine lv_if_ne (tgt := 1024) hx hb dL_law_1009 (by decide) (fun c_170 => ?_) (fun c_170 => ?_)
          · replace hf := ite_f c_170 hf
            refine lv_goto (tgt := 1848) hx hb dL_law_1024 (by decide) ?_
            exact bL_law_1848 (S := S) (xs := xs) (L := L) X hl0 hX hbl hbA hba (nn := _) ih S32 O31 (v4) _ _ _ _ _ (by omega) (by omega) hR hS (lv_sub hl [2, 3, 4, 5, 6] rfl) hf
          · replace hf := ite_t c_170 hf
            refine lv_aload_n hx hb dL_law_1012 rfl (lv_at hl 5 rfl) ?_
            refine lv_iconst (v := (0 : Int32)) hx hb dL_law_1013 (by decide) ?_
            refine te_lald X hR dL_law_1014 ?_
            refine lv_iload hx hb dL_law_1015 (lv_at hl 0 rfl) ?_
            refine lv_i2l hx hb dL_law_1017 rfl ?_
            refine W.lcmp hx hb dL_law_1018 ?_
            refine lv_if_eq (tgt := 1024) hx hb dL_law_1019 (by decide) (fun c_171 => ?_) (fun c_171 => ?_)
            · replace hf := ite_t c_171 hf
              refine lv_goto (tgt := 1848) hx hb dL_law_1024 (by decide) ?_
              exact bL_law_1848 (S := S) (xs := xs) (L := L) X hl0 hX hbl hbA hba (nn := _) ih S32 O31 (v4) _ _ _ _ _ (by omega) (by omega) hR hS (lv_sub hl [2, 3, 4, 5, 6] rfl) hf
            · replace hf := ite_f c_171 hf
              refine lv_iconst (v := (0 : Int32)) hx hb dL_law_1022 (by decide) ?_
              exact absurd (Option.some.inj hf) (by decide)
        · replace hf := ite_f c_169 hf
          refine lv_iconst (v := (0 : Int32)) hx hb dL_law_1005 (by decide) ?_
          exact absurd (Option.some.inj hf) (by decide)
      replace hf := ite_f c_161 hf
      by_cases c_172 : ((xs v4.toNatClampNeg) &&& (31 : Int32)) = (16 : Int32)
      · replace hf := ite_t c_172 hf
        refine lv_tableIn (off := 988) (tgt := 1027) hx hb dL_law_39 (by rw [c_172]; decide) (by rw [c_172]; decide) (by rw [c_172]; decide) (by decide) ?_
        refine lv_aload_n hx hb dL_law_1027 rfl (lv_at hl 1 rfl) ?_
        refine lv_aload_n hx hb dL_law_1028 rfl (lv_at hl 3 rfl) ?_
        obtain ⟨r_173, O33, S33, hq_174, hf⟩ := bd3_some hf
        refine kLw (As := [.ref (ad 360), .ref (ad 379)]) (rest := []) X hR hS (zcL_undo l D cy ad ba O1 S1 hl0 _ hq_174) (vx_cwSW (hh := [(0, 8, 11, 15)]) 2 X.2.2.2.2.2.1 gL_law_L_undo rfl rfl rfl kdL_undo.2 ⟨(Nat.le_of_ble_eq_true rfl), (Nat.le_of_ble_eq_true rfl)⟩) rfl rfl hl.1 (Nat.le_of_ble_eq_true rfl) ⟨by show _ ≤ 601024; omega, by show _ ≤ 7293034; omega⟩ dL_law_1029 (fun H locs hR hS => ?_)
        refine lv_istore (lv' := [(5, .int r_173), (0, .ref b), (1, .ref (ad 360)), (2, .ref (ad 369)), (3, .ref (ad 379)), (4, .int v4)]) hx hb dL_law_1032 hl (by decide) rfl (fun ls hl => ?_)
        refine lv_aload_n hx hb dL_law_1034 rfl (lv_at hl 3 rfl) ?_
        obtain ⟨r_175, S34, hq_176, hf⟩ := bd2_some hf
        refine kVi (id := 369) (As := []) (rest := []) X hR hS (zcX6_undo l D cy ad ba O33 S33 _ _ hq_176) (cwV 0 X.2.2.2.2.2.1 gL_law_X6_undo rfl rfl rfl kdX6_undo ⟨(Nat.le_of_ble_eq_true rfl), (Nat.le_of_ble_eq_true rfl)⟩) (by decide) rfl rfl rfl rfl hl.1 (Nat.le_of_ble_eq_true rfl) ⟨by show _ ≤ 601024; omega, by show _ ≤ 7293034; omega⟩ dL_law_1035 (fun H locs hR hS => ?_)
        refine lv_istore (lv' := [(6, .int r_175), (5, .int r_173), (0, .ref b), (1, .ref (ad 360)), (2, .ref (ad 369)), (3, .ref (ad 379)), (4, .int v4)]) hx hb dL_law_1038 hl (by decide) rfl (fun ls hl => ?_)
        refine lv_aload_n hx hb dL_law_1040 rfl (lv_at hl 4 rfl) ?_
        obtain ⟨r_177, hq_178, hf⟩ := bd1_some hf
        refine kVi (id := 369) (As := []) (rest := []) X hR hS (zcX6_thrown l D cy ad ba O33 S34 _ hq_178) (cwV 0 X.2.2.2.2.2.1 gL_law_X6_thrown rfl rfl rfl kdX6_thrown ⟨(Nat.le_of_ble_eq_true rfl), (Nat.le_of_ble_eq_true rfl)⟩) (by decide) rfl rfl rfl rfl hl.1 (Nat.le_of_ble_eq_true rfl) ⟨by show _ ≤ 601024; omega, by show _ ≤ 7293034; omega⟩ dL_law_1041 (fun H locs hR hS => ?_)
        refine lv_iload hx hb dL_law_1044 (lv_at hl 1 rfl) ?_
        refine lv_icmp_eq (tgt := 1051) hx hb dL_law_1046 (by decide) (fun c_179 => ?_) (fun c_179 => ?_)
        · replace hf := ite_t c_179 hf
          refine lv_iload hx hb dL_law_1051 (lv_at hl 1 rfl) ?_
          refine lv_if_ne (tgt := 1068) hx hb dL_law_1053 (by decide) (fun c_180 => ?_) (fun c_180 => ?_)
          · replace hf := ite_f c_180 hf
            refine lv_goto (tgt := 1848) hx hb dL_law_1068 (by decide) ?_
            exact bL_law_1848 (S := S) (xs := xs) (L := L) X hl0 hX hbl hbA hba (nn := _) ih S34 O33 (v4) _ _ _ _ _ (by omega) (by omega) hR hS (lv_sub hl [2, 3, 4, 5, 6] rfl) hf
          · replace hf := ite_t c_180 hf
            refine lv_aload_n hx hb dL_law_1056 rfl (lv_at hl 5 rfl) ?_
            refine lv_iconst (v := (0 : Int32)) hx hb dL_law_1057 (by decide) ?_
            refine te_lald X hR dL_law_1058 ?_
            refine lv_iload hx hb dL_law_1059 (lv_at hl 0 rfl) ?_
            refine lv_i2l hx hb dL_law_1061 rfl ?_
            refine W.lcmp hx hb dL_law_1062 ?_
            refine lv_if_eq (tgt := 1068) hx hb dL_law_1063 (by decide) (fun c_181 => ?_) (fun c_181 => ?_)
            · replace hf := ite_t c_181 hf
              refine lv_goto (tgt := 1848) hx hb dL_law_1068 (by decide) ?_
              exact bL_law_1848 (S := S) (xs := xs) (L := L) X hl0 hX hbl hbA hba (nn := _) ih S34 O33 (v4) _ _ _ _ _ (by omega) (by omega) hR hS (lv_sub hl [2, 3, 4, 5, 6] rfl) hf
            · replace hf := ite_f c_181 hf
              refine lv_iconst (v := (0 : Int32)) hx hb dL_law_1066 (by decide) ?_
              exact absurd (Option.some.inj hf) (by decide)
        · replace hf := ite_f c_179 hf
          refine lv_iconst (v := (0 : Int32)) hx hb dL_law_1049 (by decide) ?_
          exact absurd (Option.some.inj hf) (by decide)
      replace hf := ite_f c_172 hf
      by_cases c_182 : ((xs v4.toNatClampNeg) &&& (31 : Int32)) = (17 : Int32)
      · replace hf := ite_t c_182 hf
        refine lv_tableIn (off := 1032) (tgt := 1071) hx hb dL_law_39 (by rw [c_182]; decide) (by rw [c_182]; decide) (by rw [c_182]; decide) (by decide) ?_
        refine lv_aload_n hx hb dL_law_1071 rfl (lv_at hl 1 rfl) ?_
        refine lv_aload_n hx hb dL_law_1072 rfl (lv_at hl 0 rfl) ?_
        refine lv_iload hx hb dL_law_1073 (lv_at hl 4 rfl) ?_
        refine lv_iconst (v := (1 : Int32)) hx hb dL_law_1075 (by decide) ?_
        refine lv_iadd hx hb dL_law_1076 ?_
        obtain ⟨h_183, hf⟩ := chk_some hf
        refine va_sld hx hb hX hbl hbA hS (tein_in h_183) dL_law_1077 ?_
        refine lv_aload_n hx hb dL_law_1078 rfl (lv_at hl 0 rfl) ?_
        refine lv_iload hx hb dL_law_1079 (lv_at hl 4 rfl) ?_
        refine lv_iconst (v := (2 : Int32)) hx hb dL_law_1081 (by decide) ?_
        refine lv_iadd hx hb dL_law_1082 ?_
        obtain ⟨h_184, hf⟩ := chk_some hf
        refine va_sld hx hb hX hbl hbA hS (tein_in h_184) dL_law_1083 ?_
        refine lv_if_eq (tgt := 1091) hx hb dL_law_1084 (by decide) (fun c_185 => ?_) (fun c_185 => ?_)
        · replace hf := ite_t c_185 hf
          refine lv_iconst (v := (0 : Int32)) hx hb dL_law_1091 (by decide) ?_
          exact bL_law_1092 (S := S) (xs := xs) (L := L) X hl0 hX hbl hbA hba (nn := _) ih S1 O1 (v4) ((0 : Int32)) ((xs (v4 + (1 : Int32)).toNatClampNeg)) _ _ _ _ _ (by omega) (by omega) hR hS (lv_sub hl [0, 1, 2, 3, 4] rfl) hf
        · replace hf := ite_f c_185 hf
          refine lv_iconst (v := (1 : Int32)) hx hb dL_law_1087 (by decide) ?_
          refine lv_goto (tgt := 1092) hx hb dL_law_1088 (by decide) ?_
          exact bL_law_1092 (S := S) (xs := xs) (L := L) X hl0 hX hbl hbA hba (nn := _) ih S1 O1 (v4) ((1 : Int32)) ((xs (v4 + (1 : Int32)).toNatClampNeg)) _ _ _ _ _ (by omega) (by omega) hR hS (lv_sub hl [0, 1, 2, 3, 4] rfl) hf
      replace hf := ite_f c_182 hf
      by_cases c_186 : ((xs v4.toNatClampNeg) &&& (31 : Int32)) = (18 : Int32)
      · replace hf := ite_t c_186 hf
        refine lv_tableIn (off := 1116) (tgt := 1155) hx hb dL_law_39 (by rw [c_186]; decide) (by rw [c_186]; decide) (by rw [c_186]; decide) (by decide) ?_
        refine lv_aload_n hx hb dL_law_1155 rfl (lv_at hl 1 rfl) ?_
        refine lv_aload_n hx hb dL_law_1156 rfl (lv_at hl 0 rfl) ?_
        refine lv_iload hx hb dL_law_1157 (lv_at hl 4 rfl) ?_
        refine lv_iconst (v := (1 : Int32)) hx hb dL_law_1159 (by decide) ?_
        refine lv_iadd hx hb dL_law_1160 ?_
        obtain ⟨h_187, hf⟩ := chk_some hf
        refine va_sld hx hb hX hbl hbA hS (tein_in h_187) dL_law_1161 ?_
        refine lv_aload_n hx hb dL_law_1162 rfl (lv_at hl 0 rfl) ?_
        refine lv_iload hx hb dL_law_1163 (lv_at hl 4 rfl) ?_
        refine lv_iconst (v := (2 : Int32)) hx hb dL_law_1165 (by decide) ?_
        refine lv_iadd hx hb dL_law_1166 ?_
        obtain ⟨h_188, hf⟩ := chk_some hf
        refine va_sld hx hb hX hbl hbA hS (tein_in h_188) dL_law_1167 ?_
        refine lv_if_eq (tgt := 1175) hx hb dL_law_1168 (by decide) (fun c_189 => ?_) (fun c_189 => ?_)
        · replace hf := ite_t c_189 hf
          refine lv_iconst (v := (0 : Int32)) hx hb dL_law_1175 (by decide) ?_
          exact bL_law_1176 (S := S) (xs := xs) (L := L) X hl0 hX hbl hbA hba (nn := _) ih S1 O1 (v4) ((0 : Int32)) ((xs (v4 + (1 : Int32)).toNatClampNeg)) _ _ _ _ _ (by omega) (by omega) hR hS (lv_sub hl [0, 1, 2, 3, 4] rfl) hf
        · replace hf := ite_f c_189 hf
          refine lv_iconst (v := (1 : Int32)) hx hb dL_law_1171 (by decide) ?_
          refine lv_goto (tgt := 1176) hx hb dL_law_1172 (by decide) ?_
          exact bL_law_1176 (S := S) (xs := xs) (L := L) X hl0 hX hbl hbA hba (nn := _) ih S1 O1 (v4) ((1 : Int32)) ((xs (v4 + (1 : Int32)).toNatClampNeg)) _ _ _ _ _ (by omega) (by omega) hR hS (lv_sub hl [0, 1, 2, 3, 4] rfl) hf
      replace hf := ite_f c_186 hf
      by_cases c_190 : ((xs v4.toNatClampNeg) &&& (31 : Int32)) = (19 : Int32)
      · replace hf := ite_t c_190 hf
        refine lv_tableIn (off := 1200) (tgt := 1239) hx hb dL_law_39 (by rw [c_190]; decide) (by rw [c_190]; decide) (by rw [c_190]; decide) (by decide) ?_
        refine lv_aload_n hx hb dL_law_1239 rfl (lv_at hl 1 rfl) ?_
        refine lv_aload_n hx hb dL_law_1240 rfl (lv_at hl 0 rfl) ?_
        refine lv_iload hx hb dL_law_1241 (lv_at hl 4 rfl) ?_
        refine lv_iconst (v := (1 : Int32)) hx hb dL_law_1243 (by decide) ?_
        refine lv_iadd hx hb dL_law_1244 ?_
        obtain ⟨h_191, hf⟩ := chk_some hf
        refine va_sld hx hb hX hbl hbA hS (tein_in h_191) dL_law_1245 ?_
        refine lv_aload_n hx hb dL_law_1246 rfl (lv_at hl 3 rfl) ?_
        obtain ⟨r_192, O35, S35, hq_193, hf⟩ := bd3_some hf
        refine kLw (As := [.ref (ad 360), .int (xs (v4 + (1 : Int32)).toNatClampNeg), .ref (ad 379)]) (rest := []) X hR hS (zcL_best l D cy ad ba O1 S1 (xs (v4 + (1 : Int32)).toNatClampNeg) hl0 _ hq_193) (vx_cwSW (hh := [(0, 9, 12, 13)]) 3 X.2.2.2.2.2.1 gL_law_L_best rfl rfl rfl kdL_best.2 ⟨(Nat.le_of_ble_eq_true rfl), (Nat.le_of_ble_eq_true rfl)⟩) rfl rfl hl.1 (Nat.le_of_ble_eq_true rfl) ⟨by show _ ≤ 601024; omega, by show _ ≤ 7293034; omega⟩ dL_law_1247 (fun H locs hR hS => ?_)
        refine lv_istore (lv' := [(5, .int r_192), (0, .ref b), (1, .ref (ad 360)), (2, .ref (ad 369)), (3, .ref (ad 379)), (4, .int v4)]) hx hb dL_law_1250 hl (by decide) rfl (fun ls hl => ?_)
        refine lv_aload_n hx hb dL_law_1252 rfl (lv_at hl 3 rfl) ?_
        refine lv_aload_n hx hb dL_law_1253 rfl (lv_at hl 1 rfl) ?_
        refine lv_iload hx hb dL_law_1254 (lv_at hl 5 rfl) ?_
        refine lv_iconst (v := (1 : Int32)) hx hb dL_law_1256 (by decide) ?_
        refine lv_iadd hx hb dL_law_1257 ?_
        refine va_sld hx hb hX hbl hbA hS (tein_in h_191) dL_law_1258 ?_
        obtain ⟨r_194, S36, hq_195, hf⟩ := bd2_some hf
        refine kVi (id := 369) (As := [.int (xs (v4 + (1 : Int32)).toNatClampNeg)]) (rest := []) X hR hS (zcX6_best l D cy ad ba O35 S35 (xs (v4 + (1 : Int32)).toNatClampNeg) _ _ hq_195) (cwV 1 X.2.2.2.2.2.1 gL_law_X6_best rfl rfl rfl kdX6_best ⟨(Nat.le_of_ble_eq_true rfl), (Nat.le_of_ble_eq_true rfl)⟩) (by decide) rfl rfl rfl rfl hl.1 (Nat.le_of_ble_eq_true rfl) ⟨by show _ ≤ 601024; omega, by show _ ≤ 7293034; omega⟩ dL_law_1259 (fun H locs hR hS => ?_)
        refine lv_istore (lv' := [(6, .int r_194), (5, .int r_192), (0, .ref b), (1, .ref (ad 360)), (2, .ref (ad 369)), (3, .ref (ad 379)), (4, .int v4)]) hx hb dL_law_1262 hl (by decide) rfl (fun ls hl => ?_)
        refine lv_aload_n hx hb dL_law_1264 rfl (lv_at hl 4 rfl) ?_
        obtain ⟨r_196, hq_197, hf⟩ := bd1_some hf
        refine kVi (id := 369) (As := []) (rest := []) X hR hS (zcX6_thrown l D cy ad ba O35 S36 _ hq_197) (cwV 0 X.2.2.2.2.2.1 gL_law_X6_thrown rfl rfl rfl kdX6_thrown ⟨(Nat.le_of_ble_eq_true rfl), (Nat.le_of_ble_eq_true rfl)⟩) (by decide) rfl rfl rfl rfl hl.1 (Nat.le_of_ble_eq_true rfl) ⟨by show _ ≤ 601024; omega, by show _ ≤ 7293034; omega⟩ dL_law_1265 (fun H locs hR hS => ?_)
        refine lv_iload hx hb dL_law_1268 (lv_at hl 1 rfl) ?_
        refine lv_icmp_eq (tgt := 1275) hx hb dL_law_1270 (by decide) (fun c_198 => ?_) (fun c_198 => ?_)
        · replace hf := ite_t c_198 hf
          refine lv_iload hx hb dL_law_1275 (lv_at hl 1 rfl) ?_
          refine lv_if_ne (tgt := 1292) hx hb dL_law_1277 (by decide) (fun c_199 => ?_) (fun c_199 => ?_)
          · replace hf := ite_f c_199 hf
            refine lv_goto (tgt := 1848) hx hb dL_law_1292 (by decide) ?_
            exact bL_law_1848 (S := S) (xs := xs) (L := L) X hl0 hX hbl hbA hba (nn := _) ih S36 O35 (v4) _ _ _ _ _ (by omega) (by omega) hR hS (lv_sub hl [2, 3, 4, 5, 6] rfl) hf
          · replace hf := ite_t c_199 hf
            refine lv_aload_n hx hb dL_law_1280 rfl (lv_at hl 5 rfl) ?_
            refine lv_iconst (v := (0 : Int32)) hx hb dL_law_1281 (by decide) ?_
            refine te_lald X hR dL_law_1282 ?_
            refine lv_iload hx hb dL_law_1283 (lv_at hl 0 rfl) ?_
            refine lv_i2l hx hb dL_law_1285 rfl ?_
            refine W.lcmp hx hb dL_law_1286 ?_
            refine lv_if_eq (tgt := 1292) hx hb dL_law_1287 (by decide) (fun c_200 => ?_) (fun c_200 => ?_)
            · replace hf := ite_t c_200 hf
              refine lv_goto (tgt := 1848) hx hb dL_law_1292 (by decide) ?_
              exact bL_law_1848 (S := S) (xs := xs) (L := L) X hl0 hX hbl hbA hba (nn := _) ih S36 O35 (v4) _ _ _ _ _ (by omega) (by omega) hR hS (lv_sub hl [2, 3, 4, 5, 6] rfl) hf
            · replace hf := ite_f c_200 hf
              refine lv_iconst (v := (0 : Int32)) hx hb dL_law_1290 (by decide) ?_
              exact absurd (Option.some.inj hf) (by decide)
        · replace hf := ite_f c_198 hf
          refine lv_iconst (v := (0 : Int32)) hx hb dL_law_1273 (by decide) ?_
          exact absurd (Option.some.inj hf) (by decide)
      replace hf := ite_f c_190 hf
      by_cases c_201 : ((xs v4.toNatClampNeg) &&& (31 : Int32)) = (20 : Int32)
      · replace hf := ite_t c_201 hf
        refine lv_tableIn (off := 1256) (tgt := 1295) hx hb dL_law_39 (by rw [c_201]; decide) (by rw [c_201]; decide) (by rw [c_201]; decide) (by decide) ?_
        refine lv_aload_n hx hb dL_law_1295 rfl (lv_at hl 1 rfl) ?_
        obtain ⟨r_202, S37, hq_203, hf⟩ := bd2_some hf
        refine kVi (id := 360) (As := []) (rest := []) X hR hS (zcX5_missedMost l D cy ad ba O1 S1 _ _ hq_203) (cwV 0 X.2.2.2.2.2.1 gL_law_X5_missedMost rfl rfl rfl kdX5_missedMost ⟨(Nat.le_of_ble_eq_true rfl), (Nat.le_of_ble_eq_true rfl)⟩) (by decide) rfl rfl rfl rfl hl.1 (Nat.le_of_ble_eq_true rfl) ⟨by show _ ≤ 601024; omega, by show _ ≤ 7293034; omega⟩ dL_law_1296 (fun H locs hR hS => ?_)
        refine lv_aload_n hx hb dL_law_1299 rfl (lv_at hl 2 rfl) ?_
        obtain ⟨r_204, S38, hq_205, hf⟩ := bd2_some hf
        refine kVi (id := 369) (As := []) (rest := [.int r_202]) X hR hS (zcX6_missedMost l D cy ad ba O1 S37 _ _ hq_205) (cwV 0 X.2.2.2.2.2.1 gL_law_X6_missedMost rfl rfl rfl kdX6_missedMost ⟨(Nat.le_of_ble_eq_true rfl), (Nat.le_of_ble_eq_true rfl)⟩) (by decide) rfl rfl rfl rfl hl.1 (Nat.le_of_ble_eq_true rfl) ⟨by show _ ≤ 601024; omega, by show _ ≤ 7293034; omega⟩ dL_law_1300 (fun H locs hR hS => ?_)
        refine lv_icmp_eq (tgt := 1848) hx hb dL_law_1303 (by decide) (fun c_206 => ?_) (fun c_206 => ?_)
        · replace hf := ite_t c_206 hf
          exact bL_law_1848 (S := S) (xs := xs) (L := L) X hl0 hX hbl hbA hba (nn := _) ih S38 O1 (v4) _ _ _ _ _ (by omega) (by omega) hR hS (lv_sub hl [0, 1, 2, 3, 4] rfl) hf
        · replace hf := ite_f c_206 hf
          refine lv_iconst (v := (0 : Int32)) hx hb dL_law_1306 (by decide) ?_
          exact absurd (Option.some.inj hf) (by decide)
      replace hf := ite_f c_201 hf
      by_cases c_207 : ((xs v4.toNatClampNeg) &&& (31 : Int32)) = (21 : Int32)
      · replace hf := ite_t c_207 hf
        refine lv_tableIn (off := 1269) (tgt := 1308) hx hb dL_law_39 (by rw [c_207]; decide) (by rw [c_207]; decide) (by rw [c_207]; decide) (by decide) ?_
        refine lv_aload_n hx hb dL_law_1308 rfl (lv_at hl 1 rfl) ?_
        refine lv_aload_n hx hb dL_law_1309 rfl (lv_at hl 0 rfl) ?_
        refine lv_iload hx hb dL_law_1310 (lv_at hl 4 rfl) ?_
        refine lv_iconst (v := (1 : Int32)) hx hb dL_law_1312 (by decide) ?_
        refine lv_iadd hx hb dL_law_1313 ?_
        obtain ⟨h_208, hf⟩ := chk_some hf
        refine va_sld hx hb hX hbl hbA hS (tein_in h_208) dL_law_1314 ?_
        refine lv_aload_n hx hb dL_law_1315 rfl (lv_at hl 0 rfl) ?_
        refine lv_iload hx hb dL_law_1316 (lv_at hl 4 rfl) ?_
        refine lv_iconst (v := (2 : Int32)) hx hb dL_law_1318 (by decide) ?_
        refine lv_iadd hx hb dL_law_1319 ?_
        obtain ⟨h_209, hf⟩ := chk_some hf
        refine va_sld hx hb hX hbl hbA hS (tein_in h_209) dL_law_1320 ?_
        refine lv_aload_n hx hb dL_law_1321 rfl (lv_at hl 0 rfl) ?_
        refine lv_iload hx hb dL_law_1322 (lv_at hl 4 rfl) ?_
        refine lv_iconst (v := (3 : Int32)) hx hb dL_law_1324 (by decide) ?_
        refine lv_iadd hx hb dL_law_1325 ?_
        obtain ⟨h_210, hf⟩ := chk_some hf
        refine va_sld hx hb hX hbl hbA hS (tein_in h_210) dL_law_1326 ?_
        refine lv_aload_n hx hb dL_law_1327 rfl (lv_at hl 0 rfl) ?_
        refine lv_iload hx hb dL_law_1328 (lv_at hl 4 rfl) ?_
        refine lv_iconst (v := (4 : Int32)) hx hb dL_law_1330 (by decide) ?_
        refine lv_iadd hx hb dL_law_1331 ?_
        obtain ⟨h_211, hf⟩ := chk_some hf
        refine va_sld hx hb hX hbl hbA hS (tein_in h_211) dL_law_1332 ?_
        refine lv_aload_n hx hb dL_law_1333 rfl (lv_at hl 3 rfl) ?_
        obtain ⟨r_212, O39, S39, hq_213, hf⟩ := bd3_some hf
        refine kLw (As := [.ref (ad 360), .int (xs (v4 + (1 : Int32)).toNatClampNeg), .int (xs (v4 + (2 : Int32)).toNatClampNeg), .int (xs (v4 + (3 : Int32)).toNatClampNeg), .int (xs (v4 + (4 : Int32)).toNatClampNeg), .ref (ad 379)]) (rest := []) X hR hS (zcL_ahead l D cy ad ba O1 S1 (xs (v4 + (1 : Int32)).toNatClampNeg) (xs (v4 + (2 : Int32)).toNatClampNeg) (xs (v4 + (3 : Int32)).toNatClampNeg) (xs (v4 + (4 : Int32)).toNatClampNeg) hl0 _ hq_213) (vx_cwSW (hh := [(0, 14, 17, 28), (0, 14, 21, 13)]) 6 X.2.2.2.2.2.1 gL_law_L_ahead rfl rfl rfl kdL_ahead.2 ⟨(Nat.le_of_ble_eq_true rfl), (Nat.le_of_ble_eq_true rfl)⟩) rfl rfl hl.1 (Nat.le_of_ble_eq_true rfl) ⟨by show _ ≤ 601024; omega, by show _ ≤ 7293034; omega⟩ dL_law_1334 (fun H locs hR hS => ?_)
        refine lv_istore (lv' := [(5, .int r_212), (0, .ref b), (1, .ref (ad 360)), (2, .ref (ad 369)), (3, .ref (ad 379)), (4, .int v4)]) hx hb dL_law_1337 hl (by decide) rfl (fun ls hl => ?_)
        refine lv_aload_n hx hb dL_law_1339 rfl (lv_at hl 3 rfl) ?_
        refine lv_aload_n hx hb dL_law_1340 rfl (lv_at hl 1 rfl) ?_
        refine lv_iload hx hb dL_law_1341 (lv_at hl 5 rfl) ?_
        refine lv_iconst (v := (1 : Int32)) hx hb dL_law_1343 (by decide) ?_
        refine lv_iadd hx hb dL_law_1344 ?_
        refine va_sld hx hb hX hbl hbA hS (tein_in h_208) dL_law_1345 ?_
        refine lv_aload_n hx hb dL_law_1346 rfl (lv_at hl 1 rfl) ?_
        refine lv_iload hx hb dL_law_1347 (lv_at hl 5 rfl) ?_
        refine lv_iconst (v := (2 : Int32)) hx hb dL_law_1349 (by decide) ?_
        refine lv_iadd hx hb dL_law_1350 ?_
        refine va_sld hx hb hX hbl hbA hS (tein_in h_209) dL_law_1351 ?_
        refine lv_aload_n hx hb dL_law_1352 rfl (lv_at hl 1 rfl) ?_
        refine lv_iload hx hb dL_law_1353 (lv_at hl 5 rfl) ?_
        refine lv_iconst (v := (3 : Int32)) hx hb dL_law_1355 (by decide) ?_
        refine lv_iadd hx hb dL_law_1356 ?_
        refine va_sld hx hb hX hbl hbA hS (tein_in h_210) dL_law_1357 ?_
        refine lv_aload_n hx hb dL_law_1358 rfl (lv_at hl 1 rfl) ?_
        refine lv_iload hx hb dL_law_1359 (lv_at hl 5 rfl) ?_
        refine lv_iconst (v := (4 : Int32)) hx hb dL_law_1361 (by decide) ?_
        refine lv_iadd hx hb dL_law_1362 ?_
        refine va_sld hx hb hX hbl hbA hS (tein_in h_211) dL_law_1363 ?_
        obtain ⟨r_214, S40, hq_215, hf⟩ := bd2_some hf
        refine kVi (id := 369) (As := [.int (xs (v4 + (1 : Int32)).toNatClampNeg), .int (xs (v4 + (2 : Int32)).toNatClampNeg), .int (xs (v4 + (3 : Int32)).toNatClampNeg), .int (xs (v4 + (4 : Int32)).toNatClampNeg)]) (rest := []) X hR hS (zcX6_ahead l D cy ad ba O39 S39 (xs (v4 + (1 : Int32)).toNatClampNeg) (xs (v4 + (2 : Int32)).toNatClampNeg) (xs (v4 + (3 : Int32)).toNatClampNeg) (xs (v4 + (4 : Int32)).toNatClampNeg) _ _ hq_215) (cwV 4 X.2.2.2.2.2.1 gL_law_X6_ahead rfl rfl rfl kdX6_ahead ⟨(Nat.le_of_ble_eq_true rfl), (Nat.le_of_ble_eq_true rfl)⟩) (by decide) rfl rfl rfl rfl hl.1 (Nat.le_of_ble_eq_true rfl) ⟨by show _ ≤ 601024; omega, by show _ ≤ 7293034; omega⟩ dL_law_1364 (fun H locs hR hS => ?_)
        refine lv_istore (lv' := [(6, .int r_214), (5, .int r_212), (0, .ref b), (1, .ref (ad 360)), (2, .ref (ad 369)), (3, .ref (ad 379)), (4, .int v4)]) hx hb dL_law_1367 hl (by decide) rfl (fun ls hl => ?_)
        refine lv_aload_n hx hb dL_law_1369 rfl (lv_at hl 4 rfl) ?_
        obtain ⟨r_216, hq_217, hf⟩ := bd1_some hf
        refine kVi (id := 369) (As := []) (rest := []) X hR hS (zcX6_thrown l D cy ad ba O39 S40 _ hq_217) (cwV 0 X.2.2.2.2.2.1 gL_law_X6_thrown rfl rfl rfl kdX6_thrown ⟨(Nat.le_of_ble_eq_true rfl), (Nat.le_of_ble_eq_true rfl)⟩) (by decide) rfl rfl rfl rfl hl.1 (Nat.le_of_ble_eq_true rfl) ⟨by show _ ≤ 601024; omega, by show _ ≤ 7293034; omega⟩ dL_law_1370 (fun H locs hR hS => ?_)
        refine lv_iload hx hb dL_law_1373 (lv_at hl 1 rfl) ?_
        refine lv_icmp_eq (tgt := 1380) hx hb dL_law_1375 (by decide) (fun c_218 => ?_) (fun c_218 => ?_)
        · replace hf := ite_t c_218 hf
          refine lv_iload hx hb dL_law_1380 (lv_at hl 1 rfl) ?_
          refine lv_if_ne (tgt := 1397) hx hb dL_law_1382 (by decide) (fun c_219 => ?_) (fun c_219 => ?_)
          · replace hf := ite_f c_219 hf
            refine lv_goto (tgt := 1848) hx hb dL_law_1397 (by decide) ?_
            exact bL_law_1848 (S := S) (xs := xs) (L := L) X hl0 hX hbl hbA hba (nn := _) ih S40 O39 (v4) _ _ _ _ _ (by omega) (by omega) hR hS (lv_sub hl [2, 3, 4, 5, 6] rfl) hf
          · replace hf := ite_t c_219 hf
            refine lv_aload_n hx hb dL_law_1385 rfl (lv_at hl 5 rfl) ?_
            refine lv_iconst (v := (0 : Int32)) hx hb dL_law_1386 (by decide) ?_
            refine te_lald X hR dL_law_1387 ?_
            refine lv_iload hx hb dL_law_1388 (lv_at hl 0 rfl) ?_
            refine lv_i2l hx hb dL_law_1390 rfl ?_
            refine W.lcmp hx hb dL_law_1391 ?_
            refine lv_if_eq (tgt := 1397) hx hb dL_law_1392 (by decide) (fun c_220 => ?_) (fun c_220 => ?_)
            · replace hf := ite_t c_220 hf
              refine lv_goto (tgt := 1848) hx hb dL_law_1397 (by decide) ?_
              exact bL_law_1848 (S := S) (xs := xs) (L := L) X hl0 hX hbl hbA hba (nn := _) ih S40 O39 (v4) _ _ _ _ _ (by omega) (by omega) hR hS (lv_sub hl [2, 3, 4, 5, 6] rfl) hf
            · replace hf := ite_f c_220 hf
              refine lv_iconst (v := (0 : Int32)) hx hb dL_law_1395 (by decide) ?_
              exact absurd (Option.some.inj hf) (by decide)
        · replace hf := ite_f c_218 hf
          refine lv_iconst (v := (0 : Int32)) hx hb dL_law_1378 (by decide) ?_
          exact absurd (Option.some.inj hf) (by decide)
      replace hf := ite_f c_207 hf
      by_cases c_221 : ((xs v4.toNatClampNeg) &&& (31 : Int32)) = (22 : Int32)
      · replace hf := ite_t c_221 hf
        refine lv_tableIn (off := 1361) (tgt := 1400) hx hb dL_law_39 (by rw [c_221]; decide) (by rw [c_221]; decide) (by rw [c_221]; decide) (by decide) ?_
        refine lv_aload_n hx hb dL_law_1400 rfl (lv_at hl 1 rfl) ?_
        refine lv_aload_n hx hb dL_law_1401 rfl (lv_at hl 0 rfl) ?_
        refine lv_iload hx hb dL_law_1402 (lv_at hl 4 rfl) ?_
        refine lv_iconst (v := (1 : Int32)) hx hb dL_law_1404 (by decide) ?_
        refine lv_iadd hx hb dL_law_1405 ?_
        obtain ⟨h_222, hf⟩ := chk_some hf
        refine va_sld hx hb hX hbl hbA hS (tein_in h_222) dL_law_1406 ?_
        refine lv_aload_n hx hb dL_law_1407 rfl (lv_at hl 0 rfl) ?_
        refine lv_iload hx hb dL_law_1408 (lv_at hl 4 rfl) ?_
        refine lv_iconst (v := (2 : Int32)) hx hb dL_law_1410 (by decide) ?_
        refine lv_iadd hx hb dL_law_1411 ?_
        obtain ⟨h_223, hf⟩ := chk_some hf
        refine va_sld hx hb hX hbl hbA hS (tein_in h_223) dL_law_1412 ?_
        refine lv_aload_n hx hb dL_law_1413 rfl (lv_at hl 3 rfl) ?_
        obtain ⟨r_224, O41, S41, hq_225, hf⟩ := bd3_some hf
        refine kLw (As := [.ref (ad 360), .int (xs (v4 + (1 : Int32)).toNatClampNeg), .int (xs (v4 + (2 : Int32)).toNatClampNeg), .ref (ad 379)]) (rest := []) X hR hS (zcL_levelAfter l D cy ad ba O1 S1 (xs (v4 + (1 : Int32)).toNatClampNeg) (xs (v4 + (2 : Int32)).toNatClampNeg) hl0 _ hq_225) (vx_cwSW (hh := [(0, 10, 13, 28), (0, 10, 17, 13)]) 4 X.2.2.2.2.2.1 gL_law_L_levelAfter rfl rfl rfl kdL_levelAfter.2 ⟨(Nat.le_of_ble_eq_true rfl), (Nat.le_of_ble_eq_true rfl)⟩) rfl rfl hl.1 (Nat.le_of_ble_eq_true rfl) ⟨by show _ ≤ 601024; omega, by show _ ≤ 7293034; omega⟩ dL_law_1414 (fun H locs hR hS => ?_)
        refine lv_istore (lv' := [(5, .int r_224), (0, .ref b), (1, .ref (ad 360)), (2, .ref (ad 369)), (3, .ref (ad 379)), (4, .int v4)]) hx hb dL_law_1417 hl (by decide) rfl (fun ls hl => ?_)
        refine lv_aload_n hx hb dL_law_1419 rfl (lv_at hl 3 rfl) ?_
        refine lv_aload_n hx hb dL_law_1420 rfl (lv_at hl 1 rfl) ?_
        refine lv_iload hx hb dL_law_1421 (lv_at hl 5 rfl) ?_
        refine lv_iconst (v := (1 : Int32)) hx hb dL_law_1423 (by decide) ?_
        refine lv_iadd hx hb dL_law_1424 ?_
        refine va_sld hx hb hX hbl hbA hS (tein_in h_222) dL_law_1425 ?_
        refine lv_aload_n hx hb dL_law_1426 rfl (lv_at hl 1 rfl) ?_
        refine lv_iload hx hb dL_law_1427 (lv_at hl 5 rfl) ?_
        refine lv_iconst (v := (2 : Int32)) hx hb dL_law_1429 (by decide) ?_
        refine lv_iadd hx hb dL_law_1430 ?_
        refine va_sld hx hb hX hbl hbA hS (tein_in h_223) dL_law_1431 ?_
        obtain ⟨r_226, S42, hq_227, hf⟩ := bd2_some hf
        refine kVi (id := 369) (As := [.int (xs (v4 + (1 : Int32)).toNatClampNeg), .int (xs (v4 + (2 : Int32)).toNatClampNeg)]) (rest := []) X hR hS (zcX6_levelAfter l D cy ad ba O41 S41 (xs (v4 + (1 : Int32)).toNatClampNeg) (xs (v4 + (2 : Int32)).toNatClampNeg) _ _ hq_227) (cwV 2 X.2.2.2.2.2.1 gL_law_X6_levelAfter rfl rfl rfl kdX6_levelAfter ⟨(Nat.le_of_ble_eq_true rfl), (Nat.le_of_ble_eq_true rfl)⟩) (by decide) rfl rfl rfl rfl hl.1 (Nat.le_of_ble_eq_true rfl) ⟨by show _ ≤ 601024; omega, by show _ ≤ 7293034; omega⟩ dL_law_1432 (fun H locs hR hS => ?_)
        refine lv_istore (lv' := [(6, .int r_226), (5, .int r_224), (0, .ref b), (1, .ref (ad 360)), (2, .ref (ad 369)), (3, .ref (ad 379)), (4, .int v4)]) hx hb dL_law_1435 hl (by decide) rfl (fun ls hl => ?_)
        refine lv_aload_n hx hb dL_law_1437 rfl (lv_at hl 4 rfl) ?_
        obtain ⟨r_228, hq_229, hf⟩ := bd1_some hf
        refine kVi (id := 369) (As := []) (rest := []) X hR hS (zcX6_thrown l D cy ad ba O41 S42 _ hq_229) (cwV 0 X.2.2.2.2.2.1 gL_law_X6_thrown rfl rfl rfl kdX6_thrown ⟨(Nat.le_of_ble_eq_true rfl), (Nat.le_of_ble_eq_true rfl)⟩) (by decide) rfl rfl rfl rfl hl.1 (Nat.le_of_ble_eq_true rfl) ⟨by show _ ≤ 601024; omega, by show _ ≤ 7293034; omega⟩ dL_law_1438 (fun H locs hR hS => ?_)
        refine lv_iload hx hb dL_law_1441 (lv_at hl 1 rfl) ?_
        refine lv_icmp_eq (tgt := 1448) hx hb dL_law_1443 (by decide) (fun c_230 => ?_) (fun c_230 => ?_)
        · replace hf := ite_t c_230 hf
          refine lv_iload hx hb dL_law_1448 (lv_at hl 1 rfl) ?_
          refine lv_if_ne (tgt := 1465) hx hb dL_law_1450 (by decide) (fun c_231 => ?_) (fun c_231 => ?_)
          · replace hf := ite_f c_231 hf
            refine lv_goto (tgt := 1848) hx hb dL_law_1465 (by decide) ?_
            exact bL_law_1848 (S := S) (xs := xs) (L := L) X hl0 hX hbl hbA hba (nn := _) ih S42 O41 (v4) _ _ _ _ _ (by omega) (by omega) hR hS (lv_sub hl [2, 3, 4, 5, 6] rfl) hf
          · replace hf := ite_t c_231 hf
            refine lv_aload_n hx hb dL_law_1453 rfl (lv_at hl 5 rfl) ?_
            refine lv_iconst (v := (0 : Int32)) hx hb dL_law_1454 (by decide) ?_
            refine te_lald X hR dL_law_1455 ?_
            refine lv_iload hx hb dL_law_1456 (lv_at hl 0 rfl) ?_
            refine lv_i2l hx hb dL_law_1458 rfl ?_
            refine W.lcmp hx hb dL_law_1459 ?_
            refine lv_if_eq (tgt := 1465) hx hb dL_law_1460 (by decide) (fun c_232 => ?_) (fun c_232 => ?_)
            · replace hf := ite_t c_232 hf
              refine lv_goto (tgt := 1848) hx hb dL_law_1465 (by decide) ?_
              exact bL_law_1848 (S := S) (xs := xs) (L := L) X hl0 hX hbl hbA hba (nn := _) ih S42 O41 (v4) _ _ _ _ _ (by omega) (by omega) hR hS (lv_sub hl [2, 3, 4, 5, 6] rfl) hf
            · replace hf := ite_f c_232 hf
              refine lv_iconst (v := (0 : Int32)) hx hb dL_law_1463 (by decide) ?_
              exact absurd (Option.some.inj hf) (by decide)
        · replace hf := ite_f c_230 hf
          refine lv_iconst (v := (0 : Int32)) hx hb dL_law_1446 (by decide) ?_
          exact absurd (Option.some.inj hf) (by decide)
      replace hf := ite_f c_221 hf
      by_cases c_233 : ((xs v4.toNatClampNeg) &&& (31 : Int32)) = (23 : Int32)
      · replace hf := ite_t c_233 hf
        refine lv_tableIn (off := 1429) (tgt := 1468) hx hb dL_law_39 (by rw [c_233]; decide) (by rw [c_233]; decide) (by rw [c_233]; decide) (by decide) ?_
        refine lv_aload_n hx hb dL_law_1468 rfl (lv_at hl 1 rfl) ?_
        refine lv_aload_n hx hb dL_law_1469 rfl (lv_at hl 0 rfl) ?_
        refine lv_iload hx hb dL_law_1470 (lv_at hl 4 rfl) ?_
        refine lv_iconst (v := (1 : Int32)) hx hb dL_law_1472 (by decide) ?_
        refine lv_iadd hx hb dL_law_1473 ?_
        obtain ⟨h_234, hf⟩ := chk_some hf
        refine va_sld hx hb hX hbl hbA hS (tein_in h_234) dL_law_1474 ?_
        refine lv_aload_n hx hb dL_law_1475 rfl (lv_at hl 0 rfl) ?_
        refine lv_iload hx hb dL_law_1476 (lv_at hl 4 rfl) ?_
        refine lv_iconst (v := (2 : Int32)) hx hb dL_law_1478 (by decide) ?_
        refine lv_iadd hx hb dL_law_1479 ?_
        obtain ⟨h_235, hf⟩ := chk_some hf
        refine va_sld hx hb hX hbl hbA hS (tein_in h_235) dL_law_1480 ?_
        refine lv_aload_n hx hb dL_law_1481 rfl (lv_at hl 3 rfl) ?_
        obtain ⟨r_236, O43, S43, hq_237, hf⟩ := bd3_some hf
        refine kLw (As := [.ref (ad 360), .int (xs (v4 + (1 : Int32)).toNatClampNeg), .int (xs (v4 + (2 : Int32)).toNatClampNeg), .ref (ad 379)]) (rest := []) X hR hS (zcL_partsAfter l D cy ad ba O1 S1 (xs (v4 + (1 : Int32)).toNatClampNeg) (xs (v4 + (2 : Int32)).toNatClampNeg) hl0 _ hq_237) (vx_cwSW (hh := [(0, 10, 13, 28), (0, 10, 17, 13), (0, 10, 21, 15)]) 4 X.2.2.2.2.2.1 gL_law_L_partsAfter rfl rfl rfl kdL_partsAfter.2 ⟨(Nat.le_of_ble_eq_true rfl), (Nat.le_of_ble_eq_true rfl)⟩) rfl rfl hl.1 (Nat.le_of_ble_eq_true rfl) ⟨by show _ ≤ 601024; omega, by show _ ≤ 7293034; omega⟩ dL_law_1482 (fun H locs hR hS => ?_)
        refine lv_istore (lv' := [(5, .int r_236), (0, .ref b), (1, .ref (ad 360)), (2, .ref (ad 369)), (3, .ref (ad 379)), (4, .int v4)]) hx hb dL_law_1485 hl (by decide) rfl (fun ls hl => ?_)
        refine lv_aload_n hx hb dL_law_1487 rfl (lv_at hl 3 rfl) ?_
        refine lv_aload_n hx hb dL_law_1488 rfl (lv_at hl 1 rfl) ?_
        refine lv_iload hx hb dL_law_1489 (lv_at hl 5 rfl) ?_
        refine lv_iconst (v := (1 : Int32)) hx hb dL_law_1491 (by decide) ?_
        refine lv_iadd hx hb dL_law_1492 ?_
        refine va_sld hx hb hX hbl hbA hS (tein_in h_234) dL_law_1493 ?_
        refine lv_aload_n hx hb dL_law_1494 rfl (lv_at hl 1 rfl) ?_
        refine lv_iload hx hb dL_law_1495 (lv_at hl 5 rfl) ?_
        refine lv_iconst (v := (2 : Int32)) hx hb dL_law_1497 (by decide) ?_
        refine lv_iadd hx hb dL_law_1498 ?_
        refine va_sld hx hb hX hbl hbA hS (tein_in h_235) dL_law_1499 ?_
        obtain ⟨r_238, S44, hq_239, hf⟩ := bd2_some hf
        refine kVi (id := 369) (As := [.int (xs (v4 + (1 : Int32)).toNatClampNeg), .int (xs (v4 + (2 : Int32)).toNatClampNeg)]) (rest := []) X hR hS (zcX6_partsAfter l D cy ad ba O43 S43 (xs (v4 + (1 : Int32)).toNatClampNeg) (xs (v4 + (2 : Int32)).toNatClampNeg) _ _ hq_239) (cwV 2 X.2.2.2.2.2.1 gL_law_X6_partsAfter rfl rfl rfl kdX6_partsAfter ⟨(Nat.le_of_ble_eq_true rfl), (Nat.le_of_ble_eq_true rfl)⟩) (by decide) rfl rfl rfl rfl hl.1 (Nat.le_of_ble_eq_true rfl) ⟨by show _ ≤ 601024; omega, by show _ ≤ 7293034; omega⟩ dL_law_1500 (fun H locs hR hS => ?_)
        refine lv_istore (lv' := [(6, .int r_238), (5, .int r_236), (0, .ref b), (1, .ref (ad 360)), (2, .ref (ad 369)), (3, .ref (ad 379)), (4, .int v4)]) hx hb dL_law_1503 hl (by decide) rfl (fun ls hl => ?_)
        refine lv_aload_n hx hb dL_law_1505 rfl (lv_at hl 4 rfl) ?_
        obtain ⟨r_240, hq_241, hf⟩ := bd1_some hf
        refine kVi (id := 369) (As := []) (rest := []) X hR hS (zcX6_thrown l D cy ad ba O43 S44 _ hq_241) (cwV 0 X.2.2.2.2.2.1 gL_law_X6_thrown rfl rfl rfl kdX6_thrown ⟨(Nat.le_of_ble_eq_true rfl), (Nat.le_of_ble_eq_true rfl)⟩) (by decide) rfl rfl rfl rfl hl.1 (Nat.le_of_ble_eq_true rfl) ⟨by show _ ≤ 601024; omega, by show _ ≤ 7293034; omega⟩ dL_law_1506 (fun H locs hR hS => ?_)
        refine lv_iload hx hb dL_law_1509 (lv_at hl 1 rfl) ?_
        refine lv_icmp_eq (tgt := 1516) hx hb dL_law_1511 (by decide) (fun c_242 => ?_) (fun c_242 => ?_)
        · replace hf := ite_t c_242 hf
          refine lv_iload hx hb dL_law_1516 (lv_at hl 1 rfl) ?_
          refine lv_if_ne (tgt := 1533) hx hb dL_law_1518 (by decide) (fun c_243 => ?_) (fun c_243 => ?_)
          · replace hf := ite_f c_243 hf
            refine lv_goto (tgt := 1848) hx hb dL_law_1533 (by decide) ?_
            exact bL_law_1848 (S := S) (xs := xs) (L := L) X hl0 hX hbl hbA hba (nn := _) ih S44 O43 (v4) _ _ _ _ _ (by omega) (by omega) hR hS (lv_sub hl [2, 3, 4, 5, 6] rfl) hf
          · replace hf := ite_t c_243 hf
            refine lv_aload_n hx hb dL_law_1521 rfl (lv_at hl 5 rfl) ?_
            refine lv_iconst (v := (0 : Int32)) hx hb dL_law_1522 (by decide) ?_
            refine te_lald X hR dL_law_1523 ?_
            refine lv_iload hx hb dL_law_1524 (lv_at hl 0 rfl) ?_
            refine lv_i2l hx hb dL_law_1526 rfl ?_
            refine W.lcmp hx hb dL_law_1527 ?_
            refine lv_if_eq (tgt := 1533) hx hb dL_law_1528 (by decide) (fun c_244 => ?_) (fun c_244 => ?_)
            · replace hf := ite_t c_244 hf
              refine lv_goto (tgt := 1848) hx hb dL_law_1533 (by decide) ?_
              exact bL_law_1848 (S := S) (xs := xs) (L := L) X hl0 hX hbl hbA hba (nn := _) ih S44 O43 (v4) _ _ _ _ _ (by omega) (by omega) hR hS (lv_sub hl [2, 3, 4, 5, 6] rfl) hf
            · replace hf := ite_f c_244 hf
              refine lv_iconst (v := (0 : Int32)) hx hb dL_law_1531 (by decide) ?_
              exact absurd (Option.some.inj hf) (by decide)
        · replace hf := ite_f c_242 hf
          refine lv_iconst (v := (0 : Int32)) hx hb dL_law_1514 (by decide) ?_
          exact absurd (Option.some.inj hf) (by decide)
      replace hf := ite_f c_233 hf
      by_cases c_245 : ((xs v4.toNatClampNeg) &&& (31 : Int32)) = (24 : Int32)
      · replace hf := ite_t c_245 hf
        refine lv_tableIn (off := 1497) (tgt := 1536) hx hb dL_law_39 (by rw [c_245]; decide) (by rw [c_245]; decide) (by rw [c_245]; decide) (by decide) ?_
        refine lv_aload_n hx hb dL_law_1536 rfl (lv_at hl 1 rfl) ?_
        refine lv_aload_n hx hb dL_law_1537 rfl (lv_at hl 0 rfl) ?_
        refine lv_iload hx hb dL_law_1538 (lv_at hl 4 rfl) ?_
        refine lv_iconst (v := (1 : Int32)) hx hb dL_law_1540 (by decide) ?_
        refine lv_iadd hx hb dL_law_1541 ?_
        obtain ⟨h_246, hf⟩ := chk_some hf
        refine va_sld hx hb hX hbl hbA hS (tein_in h_246) dL_law_1542 ?_
        refine lv_aload_n hx hb dL_law_1543 rfl (lv_at hl 0 rfl) ?_
        refine lv_iload hx hb dL_law_1544 (lv_at hl 4 rfl) ?_
        refine lv_iconst (v := (2 : Int32)) hx hb dL_law_1546 (by decide) ?_
        refine lv_iadd hx hb dL_law_1547 ?_
        obtain ⟨h_247, hf⟩ := chk_some hf
        refine va_sld hx hb hX hbl hbA hS (tein_in h_247) dL_law_1548 ?_
        refine lv_i2l hx hb dL_law_1549 rfl ?_
        refine lv_bipush (v := (32 : Int32)) hx hb dL_law_1550 (by decide) ?_
        refine lv_lshl hx hb dL_law_1552 rfl ?_
        refine lv_aload_n hx hb dL_law_1553 rfl (lv_at hl 0 rfl) ?_
        refine lv_iload hx hb dL_law_1554 (lv_at hl 4 rfl) ?_
        refine lv_iconst (v := (3 : Int32)) hx hb dL_law_1556 (by decide) ?_
        refine lv_iadd hx hb dL_law_1557 ?_
        obtain ⟨h_248, hf⟩ := chk_some hf
        refine va_sld hx hb hX hbl hbA hS (tein_in h_248) dL_law_1558 ?_
        refine lv_i2l hx hb dL_law_1559 rfl ?_
        refine lv_ldc2 (v := (4294967295 : Int64)) hx hb hown (X.2.2.2.2.2.1 _ wL_law_186) dL_law_1560 ?_
        refine lv_land hx hb dL_law_1563 ?_
        refine lv_lor hx hb dL_law_1564 ?_
        refine lv_aload_n hx hb dL_law_1565 rfl (lv_at hl 3 rfl) ?_
        obtain ⟨r_249, O45, S45, hq_250, hf⟩ := bd3_some hf
        refine kLw (As := [.ref (ad 360), .int (xs (v4 + (1 : Int32)).toNatClampNeg), .long ((((xs (v4 + (2 : Int32)).toNatClampNeg)).toInt64 <<< (((32 : Int32)).toInt64 &&& 63)) ||| (((xs (v4 + (3 : Int32)).toNatClampNeg)).toInt64 &&& (4294967295 : Int64))), .ref (ad 379)]) (rest := []) X hR hS (zcL_runScript l D cy ad ba O1 S1 (xs (v4 + (1 : Int32)).toNatClampNeg) ((((xs (v4 + (2 : Int32)).toNatClampNeg)).toInt64 <<< (((32 : Int32)).toInt64 &&& 63)) ||| (((xs (v4 + (3 : Int32)).toNatClampNeg)).toInt64 &&& (4294967295 : Int64))) hl0 _ hq_250) (vx_cwSW (hh := [(0, 11, 14, 13)]) 4 X.2.2.2.2.2.1 gL_law_L_runScript rfl rfl rfl kdL_runScript.2 ⟨(Nat.le_of_ble_eq_true rfl), (Nat.le_of_ble_eq_true rfl)⟩) rfl rfl hl.1 (Nat.le_of_ble_eq_true rfl) ⟨by show _ ≤ 601024; omega, by show _ ≤ 7293034; omega⟩ dL_law_1566 (fun H locs hR hS => ?_)
        refine lv_istore (lv' := [(5, .int r_249), (0, .ref b), (1, .ref (ad 360)), (2, .ref (ad 369)), (3, .ref (ad 379)), (4, .int v4)]) hx hb dL_law_1569 hl (by decide) rfl (fun ls hl => ?_)
        refine lv_aload_n hx hb dL_law_1571 rfl (lv_at hl 3 rfl) ?_
        refine lv_aload_n hx hb dL_law_1572 rfl (lv_at hl 1 rfl) ?_
        refine lv_iload hx hb dL_law_1573 (lv_at hl 5 rfl) ?_
        refine lv_iconst (v := (1 : Int32)) hx hb dL_law_1575 (by decide) ?_
        refine lv_iadd hx hb dL_law_1576 ?_
        refine va_sld hx hb hX hbl hbA hS (tein_in h_246) dL_law_1577 ?_
        refine lv_aload_n hx hb dL_law_1578 rfl (lv_at hl 1 rfl) ?_
        refine lv_iload hx hb dL_law_1579 (lv_at hl 5 rfl) ?_
        refine lv_iconst (v := (2 : Int32)) hx hb dL_law_1581 (by decide) ?_
        refine lv_iadd hx hb dL_law_1582 ?_
        refine va_sld hx hb hX hbl hbA hS (tein_in h_247) dL_law_1583 ?_
        refine lv_i2l hx hb dL_law_1584 rfl ?_
        refine lv_bipush (v := (32 : Int32)) hx hb dL_law_1585 (by decide) ?_
        refine lv_lshl hx hb dL_law_1587 rfl ?_
        refine lv_aload_n hx hb dL_law_1588 rfl (lv_at hl 1 rfl) ?_
        refine lv_iload hx hb dL_law_1589 (lv_at hl 5 rfl) ?_
        refine lv_iconst (v := (3 : Int32)) hx hb dL_law_1591 (by decide) ?_
        refine lv_iadd hx hb dL_law_1592 ?_
        refine va_sld hx hb hX hbl hbA hS (tein_in h_248) dL_law_1593 ?_
        refine lv_i2l hx hb dL_law_1594 rfl ?_
        refine lv_ldc2 (v := (4294967295 : Int64)) hx hb hown (X.2.2.2.2.2.1 _ wL_law_186) dL_law_1595 ?_
        refine lv_land hx hb dL_law_1598 ?_
        refine lv_lor hx hb dL_law_1599 ?_
        obtain ⟨r_251, S46, hq_252, hf⟩ := bd2_some hf
        refine kVi (id := 369) (As := [.int (xs (v4 + (1 : Int32)).toNatClampNeg), .long ((((xs (v4 + (2 : Int32)).toNatClampNeg)).toInt64 <<< (((32 : Int32)).toInt64 &&& 63)) ||| (((xs (v4 + (3 : Int32)).toNatClampNeg)).toInt64 &&& (4294967295 : Int64)))]) (rest := []) X hR hS (zcX6_runScript l D cy ad ba O45 S45 (xs (v4 + (1 : Int32)).toNatClampNeg) ((((xs (v4 + (2 : Int32)).toNatClampNeg)).toInt64 <<< (((32 : Int32)).toInt64 &&& 63)) ||| (((xs (v4 + (3 : Int32)).toNatClampNeg)).toInt64 &&& (4294967295 : Int64))) _ _ hq_252) (cwV 2 X.2.2.2.2.2.1 gL_law_X6_runScript rfl rfl rfl kdX6_runScript ⟨(Nat.le_of_ble_eq_true rfl), (Nat.le_of_ble_eq_true rfl)⟩) (by decide) rfl rfl rfl rfl hl.1 (Nat.le_of_ble_eq_true rfl) ⟨by show _ ≤ 601024; omega, by show _ ≤ 7293034; omega⟩ dL_law_1600 (fun H locs hR hS => ?_)
        refine lv_istore (lv' := [(6, .int r_251), (5, .int r_249), (0, .ref b), (1, .ref (ad 360)), (2, .ref (ad 369)), (3, .ref (ad 379)), (4, .int v4)]) hx hb dL_law_1603 hl (by decide) rfl (fun ls hl => ?_)
        refine lv_aload_n hx hb dL_law_1605 rfl (lv_at hl 4 rfl) ?_
        obtain ⟨r_253, hq_254, hf⟩ := bd1_some hf
        refine kVi (id := 369) (As := []) (rest := []) X hR hS (zcX6_thrown l D cy ad ba O45 S46 _ hq_254) (cwV 0 X.2.2.2.2.2.1 gL_law_X6_thrown rfl rfl rfl kdX6_thrown ⟨(Nat.le_of_ble_eq_true rfl), (Nat.le_of_ble_eq_true rfl)⟩) (by decide) rfl rfl rfl rfl hl.1 (Nat.le_of_ble_eq_true rfl) ⟨by show _ ≤ 601024; omega, by show _ ≤ 7293034; omega⟩ dL_law_1606 (fun H locs hR hS => ?_)
        refine lv_iload hx hb dL_law_1609 (lv_at hl 1 rfl) ?_
        refine lv_icmp_eq (tgt := 1616) hx hb dL_law_1611 (by decide) (fun c_255 => ?_) (fun c_255 => ?_)
        · replace hf := ite_t c_255 hf
          refine lv_iload hx hb dL_law_1616 (lv_at hl 1 rfl) ?_
          refine lv_if_ne (tgt := 1633) hx hb dL_law_1618 (by decide) (fun c_256 => ?_) (fun c_256 => ?_)
          · replace hf := ite_f c_256 hf
            refine lv_goto (tgt := 1848) hx hb dL_law_1633 (by decide) ?_
            exact bL_law_1848 (S := S) (xs := xs) (L := L) X hl0 hX hbl hbA hba (nn := _) ih S46 O45 (v4) _ _ _ _ _ (by omega) (by omega) hR hS (lv_sub hl [2, 3, 4, 5, 6] rfl) hf
          · replace hf := ite_t c_256 hf
            refine lv_aload_n hx hb dL_law_1621 rfl (lv_at hl 5 rfl) ?_
            refine lv_iconst (v := (0 : Int32)) hx hb dL_law_1622 (by decide) ?_
            refine te_lald X hR dL_law_1623 ?_
            refine lv_iload hx hb dL_law_1624 (lv_at hl 0 rfl) ?_
            refine lv_i2l hx hb dL_law_1626 rfl ?_
            refine W.lcmp hx hb dL_law_1627 ?_
            refine lv_if_eq (tgt := 1633) hx hb dL_law_1628 (by decide) (fun c_257 => ?_) (fun c_257 => ?_)
            · replace hf := ite_t c_257 hf
              refine lv_goto (tgt := 1848) hx hb dL_law_1633 (by decide) ?_
              exact bL_law_1848 (S := S) (xs := xs) (L := L) X hl0 hX hbl hbA hba (nn := _) ih S46 O45 (v4) _ _ _ _ _ (by omega) (by omega) hR hS (lv_sub hl [2, 3, 4, 5, 6] rfl) hf
            · replace hf := ite_f c_257 hf
              refine lv_iconst (v := (0 : Int32)) hx hb dL_law_1631 (by decide) ?_
              exact absurd (Option.some.inj hf) (by decide)
        · replace hf := ite_f c_255 hf
          refine lv_iconst (v := (0 : Int32)) hx hb dL_law_1614 (by decide) ?_
          exact absurd (Option.some.inj hf) (by decide)
      replace hf := ite_f c_245 hf
      by_cases c_258 : ((xs v4.toNatClampNeg) &&& (31 : Int32)) = (25 : Int32)
      · replace hf := ite_t c_258 hf
        refine lv_tableIn (off := 1597) (tgt := 1636) hx hb dL_law_39 (by rw [c_258]; decide) (by rw [c_258]; decide) (by rw [c_258]; decide) (by decide) ?_
        refine lv_aload_n hx hb dL_law_1636 rfl (lv_at hl 1 rfl) ?_
        refine lv_aload_n hx hb dL_law_1637 rfl (lv_at hl 0 rfl) ?_
        refine lv_iload hx hb dL_law_1638 (lv_at hl 4 rfl) ?_
        refine lv_iconst (v := (1 : Int32)) hx hb dL_law_1640 (by decide) ?_
        refine lv_iadd hx hb dL_law_1641 ?_
        obtain ⟨h_259, hf⟩ := chk_some hf
        refine va_sld hx hb hX hbl hbA hS (tein_in h_259) dL_law_1642 ?_
        refine lv_i2l hx hb dL_law_1643 rfl ?_
        refine lv_bipush (v := (32 : Int32)) hx hb dL_law_1644 (by decide) ?_
        refine lv_lshl hx hb dL_law_1646 rfl ?_
        refine lv_aload_n hx hb dL_law_1647 rfl (lv_at hl 0 rfl) ?_
        refine lv_iload hx hb dL_law_1648 (lv_at hl 4 rfl) ?_
        refine lv_iconst (v := (2 : Int32)) hx hb dL_law_1650 (by decide) ?_
        refine lv_iadd hx hb dL_law_1651 ?_
        obtain ⟨h_260, hf⟩ := chk_some hf
        refine va_sld hx hb hX hbl hbA hS (tein_in h_260) dL_law_1652 ?_
        refine lv_i2l hx hb dL_law_1653 rfl ?_
        refine lv_ldc2 (v := (4294967295 : Int64)) hx hb hown (X.2.2.2.2.2.1 _ wL_law_186) dL_law_1654 ?_
        refine lv_land hx hb dL_law_1657 ?_
        refine lv_lor hx hb dL_law_1658 ?_
        refine lv_aload_n hx hb dL_law_1659 rfl (lv_at hl 0 rfl) ?_
        refine lv_iload hx hb dL_law_1660 (lv_at hl 4 rfl) ?_
        refine lv_iconst (v := (3 : Int32)) hx hb dL_law_1662 (by decide) ?_
        refine lv_iadd hx hb dL_law_1663 ?_
        obtain ⟨h_261, hf⟩ := chk_some hf
        refine va_sld hx hb hX hbl hbA hS (tein_in h_261) dL_law_1664 ?_
        refine lv_aload_n hx hb dL_law_1665 rfl (lv_at hl 3 rfl) ?_
        obtain ⟨r_262, O47, S47, hq_263, hf⟩ := bd3_some hf
        refine kLw (As := [.ref (ad 360), .long ((((xs (v4 + (1 : Int32)).toNatClampNeg)).toInt64 <<< (((32 : Int32)).toInt64 &&& 63)) ||| (((xs (v4 + (2 : Int32)).toNatClampNeg)).toInt64 &&& (4294967295 : Int64))), .int (xs (v4 + (3 : Int32)).toNatClampNeg), .ref (ad 379)]) (rest := []) X hR hS (zcL_simulate l D cy ad ba O1 S1 ((((xs (v4 + (1 : Int32)).toNatClampNeg)).toInt64 <<< (((32 : Int32)).toInt64 &&& 63)) ||| (((xs (v4 + (2 : Int32)).toNatClampNeg)).toInt64 &&& (4294967295 : Int64))) (xs (v4 + (3 : Int32)).toNatClampNeg) hl0 _ hq_263) (vx_cwSW (hh := [(0, 11, 14, 13)]) 4 X.2.2.2.2.2.1 gL_law_L_simulate rfl rfl rfl kdL_simulate.2 ⟨(Nat.le_of_ble_eq_true rfl), (Nat.le_of_ble_eq_true rfl)⟩) rfl rfl hl.1 (Nat.le_of_ble_eq_true rfl) ⟨by show _ ≤ 601024; omega, by show _ ≤ 7293034; omega⟩ dL_law_1666 (fun H locs hR hS => ?_)
        refine lv_istore (lv' := [(5, .int r_262), (0, .ref b), (1, .ref (ad 360)), (2, .ref (ad 369)), (3, .ref (ad 379)), (4, .int v4)]) hx hb dL_law_1669 hl (by decide) rfl (fun ls hl => ?_)
        refine lv_aload_n hx hb dL_law_1671 rfl (lv_at hl 3 rfl) ?_
        refine lv_aload_n hx hb dL_law_1672 rfl (lv_at hl 1 rfl) ?_
        refine lv_iload hx hb dL_law_1673 (lv_at hl 5 rfl) ?_
        refine lv_iconst (v := (1 : Int32)) hx hb dL_law_1675 (by decide) ?_
        refine lv_iadd hx hb dL_law_1676 ?_
        refine va_sld hx hb hX hbl hbA hS (tein_in h_259) dL_law_1677 ?_
        refine lv_i2l hx hb dL_law_1678 rfl ?_
        refine lv_bipush (v := (32 : Int32)) hx hb dL_law_1679 (by decide) ?_
        refine lv_lshl hx hb dL_law_1681 rfl ?_
        refine lv_aload_n hx hb dL_law_1682 rfl (lv_at hl 1 rfl) ?_
        refine lv_iload hx hb dL_law_1683 (lv_at hl 5 rfl) ?_
        refine lv_iconst (v := (2 : Int32)) hx hb dL_law_1685 (by decide) ?_
        refine lv_iadd hx hb dL_law_1686 ?_
        refine va_sld hx hb hX hbl hbA hS (tein_in h_260) dL_law_1687 ?_
        refine lv_i2l hx hb dL_law_1688 rfl ?_
        refine lv_ldc2 (v := (4294967295 : Int64)) hx hb hown (X.2.2.2.2.2.1 _ wL_law_186) dL_law_1689 ?_
        refine lv_land hx hb dL_law_1692 ?_
        refine lv_lor hx hb dL_law_1693 ?_
        refine lv_aload_n hx hb dL_law_1694 rfl (lv_at hl 1 rfl) ?_
        refine lv_iload hx hb dL_law_1695 (lv_at hl 5 rfl) ?_
        refine lv_iconst (v := (3 : Int32)) hx hb dL_law_1697 (by decide) ?_
        refine lv_iadd hx hb dL_law_1698 ?_
        refine va_sld hx hb hX hbl hbA hS (tein_in h_261) dL_law_1699 ?_
        obtain ⟨r_264, S48, hq_265, hf⟩ := bd2_some hf
        refine kVi (id := 369) (As := [.long ((((xs (v4 + (1 : Int32)).toNatClampNeg)).toInt64 <<< (((32 : Int32)).toInt64 &&& 63)) ||| (((xs (v4 + (2 : Int32)).toNatClampNeg)).toInt64 &&& (4294967295 : Int64))), .int (xs (v4 + (3 : Int32)).toNatClampNeg)]) (rest := []) X hR hS (zcX6_simulate l D cy ad ba O47 S47 ((((xs (v4 + (1 : Int32)).toNatClampNeg)).toInt64 <<< (((32 : Int32)).toInt64 &&& 63)) ||| (((xs (v4 + (2 : Int32)).toNatClampNeg)).toInt64 &&& (4294967295 : Int64))) (xs (v4 + (3 : Int32)).toNatClampNeg) _ _ hq_265) (cwV 2 X.2.2.2.2.2.1 gL_law_X6_simulate rfl rfl rfl kdX6_simulate ⟨(Nat.le_of_ble_eq_true rfl), (Nat.le_of_ble_eq_true rfl)⟩) (by decide) rfl rfl rfl rfl hl.1 (Nat.le_of_ble_eq_true rfl) ⟨by show _ ≤ 601024; omega, by show _ ≤ 7293034; omega⟩ dL_law_1700 (fun H locs hR hS => ?_)
        refine lv_istore (lv' := [(6, .int r_264), (5, .int r_262), (0, .ref b), (1, .ref (ad 360)), (2, .ref (ad 369)), (3, .ref (ad 379)), (4, .int v4)]) hx hb dL_law_1703 hl (by decide) rfl (fun ls hl => ?_)
        refine lv_aload_n hx hb dL_law_1705 rfl (lv_at hl 4 rfl) ?_
        obtain ⟨r_266, hq_267, hf⟩ := bd1_some hf
        refine kVi (id := 369) (As := []) (rest := []) X hR hS (zcX6_thrown l D cy ad ba O47 S48 _ hq_267) (cwV 0 X.2.2.2.2.2.1 gL_law_X6_thrown rfl rfl rfl kdX6_thrown ⟨(Nat.le_of_ble_eq_true rfl), (Nat.le_of_ble_eq_true rfl)⟩) (by decide) rfl rfl rfl rfl hl.1 (Nat.le_of_ble_eq_true rfl) ⟨by show _ ≤ 601024; omega, by show _ ≤ 7293034; omega⟩ dL_law_1706 (fun H locs hR hS => ?_)
        refine lv_iload hx hb dL_law_1709 (lv_at hl 1 rfl) ?_
        refine lv_icmp_eq (tgt := 1716) hx hb dL_law_1711 (by decide) (fun c_268 => ?_) (fun c_268 => ?_)
        · replace hf := ite_t c_268 hf
          refine lv_iload hx hb dL_law_1716 (lv_at hl 1 rfl) ?_
          refine lv_if_ne (tgt := 1733) hx hb dL_law_1718 (by decide) (fun c_269 => ?_) (fun c_269 => ?_)
          · replace hf := ite_f c_269 hf
            refine lv_goto (tgt := 1848) hx hb dL_law_1733 (by decide) ?_
            exact bL_law_1848 (S := S) (xs := xs) (L := L) X hl0 hX hbl hbA hba (nn := _) ih S48 O47 (v4) _ _ _ _ _ (by omega) (by omega) hR hS (lv_sub hl [2, 3, 4, 5, 6] rfl) hf
          · replace hf := ite_t c_269 hf
            refine lv_aload_n hx hb dL_law_1721 rfl (lv_at hl 5 rfl) ?_
            refine lv_iconst (v := (0 : Int32)) hx hb dL_law_1722 (by decide) ?_
            refine te_lald X hR dL_law_1723 ?_
            refine lv_iload hx hb dL_law_1724 (lv_at hl 0 rfl) ?_
            refine lv_i2l hx hb dL_law_1726 rfl ?_
            refine W.lcmp hx hb dL_law_1727 ?_
            refine lv_if_eq (tgt := 1733) hx hb dL_law_1728 (by decide) (fun c_270 => ?_) (fun c_270 => ?_)
            · replace hf := ite_t c_270 hf
              refine lv_goto (tgt := 1848) hx hb dL_law_1733 (by decide) ?_
              exact bL_law_1848 (S := S) (xs := xs) (L := L) X hl0 hX hbl hbA hba (nn := _) ih S48 O47 (v4) _ _ _ _ _ (by omega) (by omega) hR hS (lv_sub hl [2, 3, 4, 5, 6] rfl) hf
            · replace hf := ite_f c_270 hf
              refine lv_iconst (v := (0 : Int32)) hx hb dL_law_1731 (by decide) ?_
              exact absurd (Option.some.inj hf) (by decide)
        · replace hf := ite_f c_268 hf
          refine lv_iconst (v := (0 : Int32)) hx hb dL_law_1714 (by decide) ?_
          exact absurd (Option.some.inj hf) (by decide)
      replace hf := ite_f c_258 hf
      by_cases c_271 : ((xs v4.toNatClampNeg) &&& (31 : Int32)) = (26 : Int32)
      · replace hf := ite_t c_271 hf
        refine lv_tableIn (off := 1697) (tgt := 1736) hx hb dL_law_39 (by rw [c_271]; decide) (by rw [c_271]; decide) (by rw [c_271]; decide) (by decide) ?_
        refine lv_aload_n hx hb dL_law_1736 rfl (lv_at hl 1 rfl) ?_
        refine lv_aload_n hx hb dL_law_1737 rfl (lv_at hl 0 rfl) ?_
        refine lv_iload hx hb dL_law_1738 (lv_at hl 4 rfl) ?_
        refine lv_iconst (v := (1 : Int32)) hx hb dL_law_1740 (by decide) ?_
        refine lv_iadd hx hb dL_law_1741 ?_
        obtain ⟨h_272, hf⟩ := chk_some hf
        refine va_sld hx hb hX hbl hbA hS (tein_in h_272) dL_law_1742 ?_
        refine lv_aload_n hx hb dL_law_1743 rfl (lv_at hl 3 rfl) ?_
        obtain ⟨r_273, O49, S49, hq_274, hf⟩ := bd3_some hf
        refine kLw (As := [.ref (ad 360), .int (xs (v4 + (1 : Int32)).toNatClampNeg), .ref (ad 379)]) (rest := []) X hR hS (zcL_save l D cy ad ba O1 S1 (xs (v4 + (1 : Int32)).toNatClampNeg) hl0 _ hq_274) (vx_cwSW (hh := [(0, 9, 12, 28)]) 3 X.2.2.2.2.2.1 gL_law_L_save rfl rfl rfl kdL_save.2 ⟨(Nat.le_of_ble_eq_true rfl), (Nat.le_of_ble_eq_true rfl)⟩) rfl rfl hl.1 (Nat.le_of_ble_eq_true rfl) ⟨by show _ ≤ 601024; omega, by show _ ≤ 7293034; omega⟩ dL_law_1744 (fun H locs hR hS => ?_)
        refine lv_istore (lv' := [(5, .int r_273), (0, .ref b), (1, .ref (ad 360)), (2, .ref (ad 369)), (3, .ref (ad 379)), (4, .int v4)]) hx hb dL_law_1747 hl (by decide) rfl (fun ls hl => ?_)
        refine lv_aload_n hx hb dL_law_1749 rfl (lv_at hl 3 rfl) ?_
        refine lv_aload_n hx hb dL_law_1750 rfl (lv_at hl 1 rfl) ?_
        refine lv_iload hx hb dL_law_1751 (lv_at hl 5 rfl) ?_
        refine lv_iconst (v := (1 : Int32)) hx hb dL_law_1753 (by decide) ?_
        refine lv_iadd hx hb dL_law_1754 ?_
        refine va_sld hx hb hX hbl hbA hS (tein_in h_272) dL_law_1755 ?_
        obtain ⟨r_275, S50, hq_276, hf⟩ := bd2_some hf
        refine kVi (id := 369) (As := [.int (xs (v4 + (1 : Int32)).toNatClampNeg)]) (rest := []) X hR hS (zcX6_save l D cy ad ba O49 S49 (xs (v4 + (1 : Int32)).toNatClampNeg) _ _ hq_276) (cwV 1 X.2.2.2.2.2.1 gL_law_X6_save rfl rfl rfl kdX6_save ⟨(Nat.le_of_ble_eq_true rfl), (Nat.le_of_ble_eq_true rfl)⟩) (by decide) rfl rfl rfl rfl hl.1 (Nat.le_of_ble_eq_true rfl) ⟨by show _ ≤ 601024; omega, by show _ ≤ 7293034; omega⟩ dL_law_1756 (fun H locs hR hS => ?_)
        refine lv_istore (lv' := [(6, .int r_275), (5, .int r_273), (0, .ref b), (1, .ref (ad 360)), (2, .ref (ad 369)), (3, .ref (ad 379)), (4, .int v4)]) hx hb dL_law_1759 hl (by decide) rfl (fun ls hl => ?_)
        refine lv_aload_n hx hb dL_law_1761 rfl (lv_at hl 4 rfl) ?_
        obtain ⟨r_277, hq_278, hf⟩ := bd1_some hf
        refine kVi (id := 369) (As := []) (rest := []) X hR hS (zcX6_thrown l D cy ad ba O49 S50 _ hq_278) (cwV 0 X.2.2.2.2.2.1 gL_law_X6_thrown rfl rfl rfl kdX6_thrown ⟨(Nat.le_of_ble_eq_true rfl), (Nat.le_of_ble_eq_true rfl)⟩) (by decide) rfl rfl rfl rfl hl.1 (Nat.le_of_ble_eq_true rfl) ⟨by show _ ≤ 601024; omega, by show _ ≤ 7293034; omega⟩ dL_law_1762 (fun H locs hR hS => ?_)
        refine lv_iload hx hb dL_law_1765 (lv_at hl 1 rfl) ?_
        refine lv_icmp_eq (tgt := 1772) hx hb dL_law_1767 (by decide) (fun c_279 => ?_) (fun c_279 => ?_)
        · replace hf := ite_t c_279 hf
          refine lv_iload hx hb dL_law_1772 (lv_at hl 1 rfl) ?_
          refine lv_if_ne (tgt := 1789) hx hb dL_law_1774 (by decide) (fun c_280 => ?_) (fun c_280 => ?_)
          · replace hf := ite_f c_280 hf
            refine lv_goto (tgt := 1848) hx hb dL_law_1789 (by decide) ?_
            exact bL_law_1848 (S := S) (xs := xs) (L := L) X hl0 hX hbl hbA hba (nn := _) ih S50 O49 (v4) _ _ _ _ _ (by omega) (by omega) hR hS (lv_sub hl [2, 3, 4, 5, 6] rfl) hf
          · replace hf := ite_t c_280 hf
            refine lv_aload_n hx hb dL_law_1777 rfl (lv_at hl 5 rfl) ?_
            refine lv_iconst (v := (0 : Int32)) hx hb dL_law_1778 (by decide) ?_
            refine te_lald X hR dL_law_1779 ?_
            refine lv_iload hx hb dL_law_1780 (lv_at hl 0 rfl) ?_
            refine lv_i2l hx hb dL_law_1782 rfl ?_
            refine W.lcmp hx hb dL_law_1783 ?_
            refine lv_if_eq (tgt := 1789) hx hb dL_law_1784 (by decide) (fun c_281 => ?_) (fun c_281 => ?_)
            · replace hf := ite_t c_281 hf
              refine lv_goto (tgt := 1848) hx hb dL_law_1789 (by decide) ?_
              exact bL_law_1848 (S := S) (xs := xs) (L := L) X hl0 hX hbl hbA hba (nn := _) ih S50 O49 (v4) _ _ _ _ _ (by omega) (by omega) hR hS (lv_sub hl [2, 3, 4, 5, 6] rfl) hf
            · replace hf := ite_f c_281 hf
              refine lv_iconst (v := (0 : Int32)) hx hb dL_law_1787 (by decide) ?_
              exact absurd (Option.some.inj hf) (by decide)
        · replace hf := ite_f c_279 hf
          refine lv_iconst (v := (0 : Int32)) hx hb dL_law_1770 (by decide) ?_
          exact absurd (Option.some.inj hf) (by decide)
      replace hf := ite_f c_271 hf
      by_cases c_282 : ((xs v4.toNatClampNeg) &&& (31 : Int32)) = (27 : Int32)
      · replace hf := ite_t c_282 hf
        refine lv_tableIn (off := 1753) (tgt := 1792) hx hb dL_law_39 (by rw [c_282]; decide) (by rw [c_282]; decide) (by rw [c_282]; decide) (by decide) ?_
        refine lv_aload_n hx hb dL_law_1792 rfl (lv_at hl 1 rfl) ?_
        refine lv_aload_n hx hb dL_law_1793 rfl (lv_at hl 0 rfl) ?_
        refine lv_iload hx hb dL_law_1794 (lv_at hl 4 rfl) ?_
        refine lv_iconst (v := (1 : Int32)) hx hb dL_law_1796 (by decide) ?_
        refine lv_iadd hx hb dL_law_1797 ?_
        obtain ⟨h_283, hf⟩ := chk_some hf
        refine va_sld hx hb hX hbl hbA hS (tein_in h_283) dL_law_1798 ?_
        refine lv_aload_n hx hb dL_law_1799 rfl (lv_at hl 3 rfl) ?_
        obtain ⟨r_284, O51, S51, hq_285, hf⟩ := bd3_some hf
        refine kLw (As := [.ref (ad 360), .int (xs (v4 + (1 : Int32)).toNatClampNeg), .ref (ad 379)]) (rest := []) X hR hS (zcL_restore l D cy ad ba O1 S1 (xs (v4 + (1 : Int32)).toNatClampNeg) hl0 _ hq_285) (vx_cwSW (hh := [(0, 9, 12, 28), (0, 9, 15, 15)]) 3 X.2.2.2.2.2.1 gL_law_L_restore rfl rfl rfl kdL_restore.2 ⟨(Nat.le_of_ble_eq_true rfl), (Nat.le_of_ble_eq_true rfl)⟩) rfl rfl hl.1 (Nat.le_of_ble_eq_true rfl) ⟨by show _ ≤ 601024; omega, by show _ ≤ 7293034; omega⟩ dL_law_1800 (fun H locs hR hS => ?_)
        refine lv_istore (lv' := [(5, .int r_284), (0, .ref b), (1, .ref (ad 360)), (2, .ref (ad 369)), (3, .ref (ad 379)), (4, .int v4)]) hx hb dL_law_1803 hl (by decide) rfl (fun ls hl => ?_)
        refine lv_aload_n hx hb dL_law_1805 rfl (lv_at hl 3 rfl) ?_
        refine lv_aload_n hx hb dL_law_1806 rfl (lv_at hl 1 rfl) ?_
        refine lv_iload hx hb dL_law_1807 (lv_at hl 5 rfl) ?_
        refine lv_iconst (v := (1 : Int32)) hx hb dL_law_1809 (by decide) ?_
        refine lv_iadd hx hb dL_law_1810 ?_
        refine va_sld hx hb hX hbl hbA hS (tein_in h_283) dL_law_1811 ?_
        obtain ⟨r_286, S52, hq_287, hf⟩ := bd2_some hf
        refine kVi (id := 369) (As := [.int (xs (v4 + (1 : Int32)).toNatClampNeg)]) (rest := []) X hR hS (zcX6_restore l D cy ad ba O51 S51 (xs (v4 + (1 : Int32)).toNatClampNeg) _ _ hq_287) (cwV 1 X.2.2.2.2.2.1 gL_law_X6_restore rfl rfl rfl kdX6_restore ⟨(Nat.le_of_ble_eq_true rfl), (Nat.le_of_ble_eq_true rfl)⟩) (by decide) rfl rfl rfl rfl hl.1 (Nat.le_of_ble_eq_true rfl) ⟨by show _ ≤ 601024; omega, by show _ ≤ 7293034; omega⟩ dL_law_1812 (fun H locs hR hS => ?_)
        refine lv_istore (lv' := [(6, .int r_286), (5, .int r_284), (0, .ref b), (1, .ref (ad 360)), (2, .ref (ad 369)), (3, .ref (ad 379)), (4, .int v4)]) hx hb dL_law_1815 hl (by decide) rfl (fun ls hl => ?_)
        refine lv_aload_n hx hb dL_law_1817 rfl (lv_at hl 4 rfl) ?_
        obtain ⟨r_288, hq_289, hf⟩ := bd1_some hf
        refine kVi (id := 369) (As := []) (rest := []) X hR hS (zcX6_thrown l D cy ad ba O51 S52 _ hq_289) (cwV 0 X.2.2.2.2.2.1 gL_law_X6_thrown rfl rfl rfl kdX6_thrown ⟨(Nat.le_of_ble_eq_true rfl), (Nat.le_of_ble_eq_true rfl)⟩) (by decide) rfl rfl rfl rfl hl.1 (Nat.le_of_ble_eq_true rfl) ⟨by show _ ≤ 601024; omega, by show _ ≤ 7293034; omega⟩ dL_law_1818 (fun H locs hR hS => ?_)
        refine lv_iload hx hb dL_law_1821 (lv_at hl 1 rfl) ?_
        refine lv_icmp_eq (tgt := 1828) hx hb dL_law_1823 (by decide) (fun c_290 => ?_) (fun c_290 => ?_)
        · replace hf := ite_t c_290 hf
          refine lv_iload hx hb dL_law_1828 (lv_at hl 1 rfl) ?_
          refine lv_if_ne (tgt := 1845) hx hb dL_law_1830 (by decide) (fun c_291 => ?_) (fun c_291 => ?_)
          · replace hf := ite_f c_291 hf
            refine lv_goto (tgt := 1848) hx hb dL_law_1845 (by decide) ?_
            exact bL_law_1848 (S := S) (xs := xs) (L := L) X hl0 hX hbl hbA hba (nn := _) ih S52 O51 (v4) _ _ _ _ _ (by omega) (by omega) hR hS (lv_sub hl [2, 3, 4, 5, 6] rfl) hf
          · replace hf := ite_t c_291 hf
            refine lv_aload_n hx hb dL_law_1833 rfl (lv_at hl 5 rfl) ?_
            refine lv_iconst (v := (0 : Int32)) hx hb dL_law_1834 (by decide) ?_
            refine te_lald X hR dL_law_1835 ?_
            refine lv_iload hx hb dL_law_1836 (lv_at hl 0 rfl) ?_
            refine lv_i2l hx hb dL_law_1838 rfl ?_
            refine W.lcmp hx hb dL_law_1839 ?_
            refine lv_if_eq (tgt := 1845) hx hb dL_law_1840 (by decide) (fun c_292 => ?_) (fun c_292 => ?_)
            · replace hf := ite_t c_292 hf
              refine lv_goto (tgt := 1848) hx hb dL_law_1845 (by decide) ?_
              exact bL_law_1848 (S := S) (xs := xs) (L := L) X hl0 hX hbl hbA hba (nn := _) ih S52 O51 (v4) _ _ _ _ _ (by omega) (by omega) hR hS (lv_sub hl [2, 3, 4, 5, 6] rfl) hf
            · replace hf := ite_f c_292 hf
              refine lv_iconst (v := (0 : Int32)) hx hb dL_law_1843 (by decide) ?_
              exact absurd (Option.some.inj hf) (by decide)
        · replace hf := ite_f c_290 hf
          refine lv_iconst (v := (0 : Int32)) hx hb dL_law_1826 (by decide) ?_
          exact absurd (Option.some.inj hf) (by decide)
      replace hf := ite_f c_282 hf
      refine lv_tableOut (tgt := 1848) hx hb dL_law_39 (te_sw (fun k h1 h2 => ?_)) (by decide) ?_
      · have hk : k = 0 ∨ k = 1 ∨ k = 2 ∨ k = 3 ∨ k = 4 ∨ k = 5 ∨ k = 6 ∨ k = 7 ∨ k = 8 ∨ k = 9 ∨ k = 10 ∨ k = 11 ∨ k = 12 ∨ k = 13 ∨ k = 14 ∨ k = 15 ∨ k = 16 ∨ k = 17 ∨ k = 18 ∨ k = 19 ∨ k = 20 ∨ k = 21 ∨ k = 22 ∨ k = 23 ∨ k = 24 ∨ k = 25 ∨ k = 26 ∨ k = 27 := by omega
        rcases hk with rfl | rfl | rfl | rfl | rfl | rfl | rfl | rfl | rfl | rfl | rfl | rfl | rfl | rfl | rfl | rfl | rfl | rfl | rfl | rfl | rfl | rfl | rfl | rfl | rfl | rfl | rfl | rfl
        · exact lv_neT c_3 (by decide)
        · exact lv_neT c_14 (by decide)
        · exact lv_neT c_20 (by decide)
        · exact lv_neT c_26 (by decide)
        · exact lv_neT c_36 (by decide)
        · exact lv_neT c_47 (by decide)
        · exact lv_neT c_59 (by decide)
        · exact lv_neT c_72 (by decide)
        · exact lv_neT c_85 (by decide)
        · exact lv_neT c_96 (by decide)
        · exact lv_neT c_108 (by decide)
        · exact lv_neT c_121 (by decide)
        · exact lv_neT c_133 (by decide)
        · exact lv_neT c_144 (by decide)
        · exact lv_neT c_150 (by decide)
        · exact lv_neT c_161 (by decide)
        · exact lv_neT c_172 (by decide)
        · exact lv_neT c_182 (by decide)
        · exact lv_neT c_186 (by decide)
        · exact lv_neT c_190 (by decide)
        · exact lv_neT c_201 (by decide)
        · exact lv_neT c_207 (by decide)
        · exact lv_neT c_221 (by decide)
        · exact lv_neT c_233 (by decide)
        · exact lv_neT c_245 (by decide)
        · exact lv_neT c_258 (by decide)
        · exact lv_neT c_271 (by decide)
        · exact lv_neT c_282 (by decide)
      exact bL_law_1848 (S := S) (xs := xs) (L := L) X hl0 hX hbl hbA hba (nn := _) ih S1 O1 (v4) _ _ _ _ _ (by omega) (by omega) hR hS (lv_sub hl [0, 1, 2, 3, 4] rfl) hf
