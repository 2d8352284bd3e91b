abbrev rmL_tryAppend : Room := { frames := 8, cells := 1, slots := 6, locals := 133 }
theorem kdL_tryAppend : yL_tryAppend.cls = RL ∧ yL_tryAppend.cls ≠ "java/lang/invoke/MethodHandle" ∧ yL_tryAppend.cls ≠ "java/lang/invoke/VarHandle" ∧ (parseMethodDescriptor yL_tryAppend.desc).map (fun d => d.parameters.length) = some 2 := by decide +kernel
theorem wL_tryAppend_15 : Cond.constant RL 15 (-99002) ∈ wsL_tryAppend := by decide +kernel
theorem wL_tryAppend_k13 : Cond.classLink RL 13 "java/lang/IllegalArgumentException" ∈ wsL_tryAppend := by decide +kernel
theorem wL_tryAppend_18 : Cond.constant RL 18 (-99003) ∈ wsL_tryAppend := by decide +kernel
theorem wL_tryAppend_k16 : Cond.classLink RL 16 "java/lang/IllegalStateException" ∈ wsL_tryAppend := by decide +kernel
set_option maxRecDepth 100000 in
set_option maxHeartbeats 4000000 in
theorem bL_tryAppend_0 {p : Program} {l : Launch} {e : Env} {s : State} {m : MethodId} {args : Array Value} {below : List Frame} {meth : Method} {c : Code} {D : va_G} {cy : Nat → ClassId} {ad : Nat → Nat} {ba : Nat → Prop} {O : Int64} {S : teS}  {x1 : Int32} {res : (Int32 × teS)} (X : teC wsL_tryAppend RL cL_tryAppend 3 (some .int) D cy ba p s m args meth c) (htab : c.exceptionTable.toList = tableOf [(0, 5, 6, 13), (0, 5, 10, 16)]) (hl0 : l.stackTraces = false) (H : Heap) (locs : List Loc) (ls : Array Slot) (hR : teR D cy ad ba O S H) (hS : va_S (teA ba) s.heap H locs) (hl : lv_has ls 3 [(0, .ref (ad 360)), (1, .int x1)]) (hf : fL_tryAppend x1 S = some res) : W p l e (headSpec wsL_tryAppend rmL_tryAppend).room s m args below meth c H locs 0 0 (vx_MQ below (va_Qi (fun a (u : teS) => a = res.1 ∧ u = res.2) (fun u t => teR D cy ad ba O u t.heap) (teA ba)) (vx_X (fun _ : Unit => False) (fun _ _ _ => True) (teA ba)) args s 1 6 (teA ba)) (F0 m 0 ls []) := by
  have hx := X.1
  have hb := X.2.1
  have hown := X.2.2.2.2.1
  unfold fL_tryAppend at hf
  refine lv_aload_n hx hb dL_tryAppend_0 rfl (lv_at hl 0 rfl) ?_
  refine lv_iload_n hx hb dL_tryAppend_1 rfl (lv_at hl 1 rfl) ?_
  rcases bxw_some hf with ⟨e_1, hq_2, hf⟩ | ⟨r_3, S1, hq_2, hf⟩
  · by_cases c_4 : e_1 = 1
    · subst c_4
      replace hf := ite_t rfl hf
      refine kVql (id := 360) (As := [.int x1]) (rest := []) X hR hS (zcX5_append l D cy ad ba O S x1 hl0 _ hq_2) (cwV 1 X.2.2.2.2.2.1 gL_tryAppend_X5_append rfl rfl rfl kdX5_append ⟨(Nat.le_of_ble_eq_true rfl), (Nat.le_of_ble_eq_true rfl)⟩) (by decide) rfl rfl rfl rfl hl.1 (Nat.le_of_ble_eq_true rfl) ⟨(Nat.le_of_ble_eq_true rfl), (Nat.le_of_ble_eq_true rfl)⟩ dL_tryAppend_2 (fun ce q9 H locs hR hS h3 h4 h5 => ?_)
      refine te_catch (c0 := 1) X htab [] [(0, 5, 10, 16)] (0, 5, 6, 13) rfl (by decide) (by decide) (fun z hz => nomatch hz) (by decide) (by decide) wL_tryAppend_k13 h3 h4 h5 ?_
      refine lv_astore_n (lv' := [(2, .ref q9), (0, .ref (ad 360)), (1, .int x1)]) hx hb dL_tryAppend_6 rfl hl (by decide) rfl (fun ls hl => ?_)
      refine lv_ldc (v := (-99002 : Int32)) hx hb hown (X.2.2.2.2.2.1 _ wL_tryAppend_15) dL_tryAppend_7 ?_
      exact eTx X hR hS (Option.some.inj hf) (Nat.le_of_ble_eq_true rfl) (Nat.le_of_ble_eq_true rfl) dL_tryAppend_9
    replace hf := ite_f c_4 hf
    by_cases c_5 : e_1 = 2
    · subst c_5
      replace hf := ite_t rfl hf
      refine kVql (id := 360) (As := [.int x1]) (rest := []) X hR hS (zcX5_append l D cy ad ba O S x1 hl0 _ hq_2) (cwV 1 X.2.2.2.2.2.1 gL_tryAppend_X5_append rfl rfl rfl kdX5_append ⟨(Nat.le_of_ble_eq_true rfl), (Nat.le_of_ble_eq_true rfl)⟩) (by decide) rfl rfl rfl rfl hl.1 (Nat.le_of_ble_eq_true rfl) ⟨(Nat.le_of_ble_eq_true rfl), (Nat.le_of_ble_eq_true rfl)⟩ dL_tryAppend_2 (fun ce q9 H locs hR hS h3 h4 h5 => ?_)
      refine te_catch (c0 := 2) X htab [(0, 5, 6, 13)] [] (0, 5, 10, 16) rfl (by decide) (by decide) (List.forall_mem_cons.mpr ⟨⟨by decide, 1, by decide, by decide, by decide, wL_tryAppend_k13⟩, fun z hz => nomatch hz⟩) (by decide) (by decide) wL_tryAppend_k16 h3 h4 h5 ?_
      refine lv_astore_n (lv' := [(2, .ref q9), (0, .ref (ad 360)), (1, .int x1)]) hx hb dL_tryAppend_10 rfl hl (by decide) rfl (fun ls hl => ?_)
      refine lv_ldc (v := (-99003 : Int32)) hx hb hown (X.2.2.2.2.2.1 _ wL_tryAppend_18) dL_tryAppend_11 ?_
      exact eTx X hR hS (Option.some.inj hf) (Nat.le_of_ble_eq_true rfl) (Nat.le_of_ble_eq_true rfl) dL_tryAppend_13
    replace hf := ite_f c_5 hf
    exact nomatch hf
  · refine kVqr (id := 360) (As := [.int x1]) (rest := []) X hR hS (zcX5_append l D cy ad ba O S x1 hl0 _ hq_2) (cwV 1 X.2.2.2.2.2.1 gL_tryAppend_X5_append rfl rfl rfl kdX5_append ⟨(Nat.le_of_ble_eq_true rfl), (Nat.le_of_ble_eq_true rfl)⟩) (by decide) rfl rfl rfl rfl hl.1 (Nat.le_of_ble_eq_true rfl) ⟨(Nat.le_of_ble_eq_true rfl), (Nat.le_of_ble_eq_true rfl)⟩ dL_tryAppend_2 (fun H locs hR hS => ?_)
    exact eTx X hR hS (Option.some.inj hf) (Nat.le_of_ble_eq_true rfl) (Nat.le_of_ble_eq_true rfl) dL_tryAppend_5
theorem zcL_tryAppend (l : Launch) (D : va_G) (cy : Nat → ClassId) (ad : Nat → Nat) (ba : Nat → Prop) (O : Int64) (S : teS) (x1 : Int32) (hl0 : l.stackTraces = false) (res : (Int32 × teS)) (hf : fL_tryAppend x1 S = some res) : lT l yL_tryAppend wsL_tryAppend rmL_tryAppend 1 6 D cy ad ba O S [.ref (ad 360), .int x1] res :=
  te_ofh (hh := [(0, 5, 6, 13), (0, 5, 10, 16)]) (by decide) rfl (Nat.le_of_ble_eq_true rfl) (fun p e s m below meth c ls X htab hR hS hl => bL_tryAppend_0 (S := S) (x1 := x1) X htab hl0 _ _ _ hR hS hl hf)
abbrev rmL_tryLoad : Room := { frames := 7, cells := 1, slots := 6, locals := 111 }
theorem kdL_tryLoad : yL_tryLoad.cls = RL ∧ yL_tryLoad.cls ≠ "java/lang/invoke/MethodHandle" ∧ yL_tryLoad.cls ≠ "java/lang/invoke/VarHandle" ∧ (parseMethodDescriptor yL_tryLoad.desc).map (fun d => d.parameters.length) = some 1 := by decide +kernel
theorem wL_tryLoad_18 : Cond.constant RL 18 (-99003) ∈ wsL_tryLoad := by decide +kernel
theorem wL_tryLoad_k16 : Cond.classLink RL 16 "java/lang/IllegalStateException" ∈ wsL_tryLoad := by decide +kernel
set_option maxRecDepth 100000 in
set_option maxHeartbeats 4000000 in
theorem bL_tryLoad_0 {p : Program} {l : Launch} {e : Env} {s : State} {m : MethodId} {args : Array Value} {below : List Frame} {meth : Method} {c : Code} {D : va_G} {cy : Nat → ClassId} {ad : Nat → Nat} {ba : Nat → Prop} {O : Int64} {S : teS}  {res : (Int32 × teS)} (X : teC wsL_tryLoad RL cL_tryLoad 2 (some .int) D cy ba p s m args meth c) (htab : c.exceptionTable.toList = tableOf [(0, 4, 5, 16)]) (hl0 : l.stackTraces = false) (H : Heap) (locs : List Loc) (ls : Array Slot) (hR : teR D cy ad ba O S H) (hS : va_S (teA ba) s.heap H locs) (hl : lv_has ls 2 [(0, .ref (ad 360))]) (hf : fL_tryLoad S = some res) : W p l e (headSpec wsL_tryLoad rmL_tryLoad).room s m args below meth c H locs 0 0 (vx_MQ below (va_Qi (fun a (u : teS) => a = res.1 ∧ u = res.2) (fun u t => teR D cy ad ba O u t.heap) (teA ba)) (vx_X (fun _ : Unit => False) (fun _ _ _ => True) (teA ba)) args s 1 6 (teA ba)) (F0 m 0 ls []) := by
  have hx := X.1
  have hb := X.2.1
  have hown := X.2.2.2.2.1
  unfold fL_tryLoad at hf
  refine lv_aload_n hx hb dL_tryLoad_0 rfl (lv_at hl 0 rfl) ?_
  rcases bxw_some hf with ⟨e_1, hq_2, hf⟩ | ⟨r_3, S1, hq_2, hf⟩
  · by_cases c_4 : e_1 = 2
    · subst c_4
      replace hf := ite_t rfl hf
      refine kVql (id := 360) (As := []) (rest := []) X hR hS (zcX5_load l D cy ad ba O S hl0 _ hq_2) (cwV 0 X.2.2.2.2.2.1 gL_tryLoad_X5_load rfl rfl rfl kdX5_load ⟨(Nat.le_of_ble_eq_true rfl), (Nat.le_of_ble_eq_true rfl)⟩) (by decide) rfl rfl rfl rfl hl.1 (Nat.le_of_ble_eq_true rfl) ⟨(Nat.le_of_ble_eq_true rfl), (Nat.le_of_ble_eq_true rfl)⟩ dL_tryLoad_1 (fun ce q9 H locs hR hS h3 h4 h5 => ?_)
      refine te_catch (c0 := 2) X htab [] [] (0, 4, 5, 16) rfl (by decide) (by decide) (fun z hz => nomatch hz) (by decide) (by decide) wL_tryLoad_k16 h3 h4 h5 ?_
      refine lv_astore_n (lv' := [(1, .ref q9), (0, .ref (ad 360))]) hx hb dL_tryLoad_5 rfl hl (by decide) rfl (fun ls hl => ?_)
      refine lv_ldc (v := (-99003 : Int32)) hx hb hown (X.2.2.2.2.2.1 _ wL_tryLoad_18) dL_tryLoad_6 ?_
      exact eTx X hR hS (Option.some.inj hf) (Nat.le_of_ble_eq_true rfl) (Nat.le_of_ble_eq_true rfl) dL_tryLoad_8
    replace hf := ite_f c_4 hf
    exact nomatch hf
  · refine kVqr (id := 360) (As := []) (rest := []) X hR hS (zcX5_load l D cy ad ba O S hl0 _ hq_2) (cwV 0 X.2.2.2.2.2.1 gL_tryLoad_X5_load rfl rfl rfl kdX5_load ⟨(Nat.le_of_ble_eq_true rfl), (Nat.le_of_ble_eq_true rfl)⟩) (by decide) rfl rfl rfl rfl hl.1 (Nat.le_of_ble_eq_true rfl) ⟨(Nat.le_of_ble_eq_true rfl), (Nat.le_of_ble_eq_true rfl)⟩ dL_tryLoad_1 (fun H locs hR hS => ?_)
    exact eTx X hR hS (Option.some.inj hf) (Nat.le_of_ble_eq_true rfl) (Nat.le_of_ble_eq_true rfl) dL_tryLoad_4
theorem zcL_tryLoad (l : Launch) (D : va_G) (cy : Nat → ClassId) (ad : Nat → Nat) (ba : Nat → Prop) (O : Int64) (S : teS) (hl0 : l.stackTraces = false) (res : (Int32 × teS)) (hf : fL_tryLoad S = some res) : lT l yL_tryLoad wsL_tryLoad rmL_tryLoad 1 6 D cy ad ba O S [.ref (ad 360)] res :=
  te_ofh (hh := [(0, 4, 5, 16)]) (by decide) rfl (Nat.le_of_ble_eq_true rfl) (fun p e s m below meth c ls X htab hR hS hl => bL_tryLoad_0 (S := S)  X htab hl0 _ _ _ hR hS hl hf)
abbrev rmL_tryAbout : Room := { frames := 7, cells := 1, slots := 6, locals := 135 }
theorem kdL_tryAbout : yL_tryAbout.cls = RL ∧ yL_tryAbout.cls ≠ "java/lang/invoke/MethodHandle" ∧ yL_tryAbout.cls ≠ "java/lang/invoke/VarHandle" ∧ (parseMethodDescriptor yL_tryAbout.desc).map (fun d => d.parameters.length) = some 2 := by decide +kernel
theorem wL_tryAbout_15 : Cond.constant RL 15 (-99002) ∈ wsL_tryAbout := by decide +kernel
theorem wL_tryAbout_k13 : Cond.classLink RL 13 "java/lang/IllegalArgumentException" ∈ wsL_tryAbout := by decide +kernel
set_option maxRecDepth 100000 in
set_option maxHeartbeats 4000000 in
theorem bL_tryAbout_0 {p : Program} {l : Launch} {e : Env} {s : State} {m : MethodId} {args : Array Value} {below : List Frame} {meth : Method} {c : Code} {D : va_G} {cy : Nat → ClassId} {ad : Nat → Nat} {ba : Nat → Prop} {O : Int64} {S : teS}  {x1 : Int32} {res : (Int32 × teS)} (X : teC wsL_tryAbout RL cL_tryAbout 3 (some .int) D cy ba p s m args meth c) (htab : c.exceptionTable.toList = tableOf [(0, 5, 6, 13)]) (hl0 : l.stackTraces = false) (H : Heap) (locs : List Loc) (ls : Array Slot) (hR : teR D cy ad ba O S H) (hS : va_S (teA ba) s.heap H locs) (hl : lv_has ls 3 [(0, .ref (ad 360)), (1, .int x1)]) (hf : fL_tryAbout x1 S = some res) : W p l e (headSpec wsL_tryAbout rmL_tryAbout).room s m args below meth c H locs 0 0 (vx_MQ below (va_Qi (fun a (u : teS) => a = res.1 ∧ u = res.2) (fun u t => teR D cy ad ba O u t.heap) (teA ba)) (vx_X (fun _ : Unit => False) (fun _ _ _ => True) (teA ba)) args s 1 6 (teA ba)) (F0 m 0 ls []) := by
  have hx := X.1
  have hb := X.2.1
  have hown := X.2.2.2.2.1
  unfold fL_tryAbout at hf
  refine lv_aload_n hx hb dL_tryAbout_0 rfl (lv_at hl 0 rfl) ?_
  refine lv_iload_n hx hb dL_tryAbout_1 rfl (lv_at hl 1 rfl) ?_
  rcases bxw_some hf with ⟨e_1, hq_2, hf⟩ | ⟨r_3, S1, hq_2, hf⟩
  · by_cases c_4 : e_1 = 1
    · subst c_4
      replace hf := ite_t rfl hf
      refine kVql (id := 360) (As := [.int x1]) (rest := []) X hR hS (zcX5_about l D cy ad ba O S x1 hl0 _ hq_2) (cwV 1 X.2.2.2.2.2.1 gL_tryAbout_X5_about rfl rfl rfl kdX5_about ⟨(Nat.le_of_ble_eq_true rfl), (Nat.le_of_ble_eq_true rfl)⟩) (by decide) rfl rfl rfl rfl hl.1 (Nat.le_of_ble_eq_true rfl) ⟨(Nat.le_of_ble_eq_true rfl), (Nat.le_of_ble_eq_true rfl)⟩ dL_tryAbout_2 (fun ce q9 H locs hR hS h3 h4 h5 => ?_)
      refine te_catch (c0 := 1) X htab [] [] (0, 5, 6, 13) rfl (by decide) (by decide) (fun z hz => nomatch hz) (by decide) (by decide) wL_tryAbout_k13 h3 h4 h5 ?_
      refine lv_astore_n (lv' := [(2, .ref q9), (0, .ref (ad 360)), (1, .int x1)]) hx hb dL_tryAbout_6 rfl hl (by decide) rfl (fun ls hl => ?_)
      refine lv_ldc (v := (-99002 : Int32)) hx hb hown (X.2.2.2.2.2.1 _ wL_tryAbout_15) dL_tryAbout_7 ?_
      exact eTx X hR hS (Option.some.inj hf) (Nat.le_of_ble_eq_true rfl) (Nat.le_of_ble_eq_true rfl) dL_tryAbout_9
    replace hf := ite_f c_4 hf
    exact nomatch hf
  · refine kVqr (id := 360) (As := [.int x1]) (rest := []) X hR hS (zcX5_about l D cy ad ba O S x1 hl0 _ hq_2) (cwV 1 X.2.2.2.2.2.1 gL_tryAbout_X5_about rfl rfl rfl kdX5_about ⟨(Nat.le_of_ble_eq_true rfl), (Nat.le_of_ble_eq_true rfl)⟩) (by decide) rfl rfl rfl rfl hl.1 (Nat.le_of_ble_eq_true rfl) ⟨(Nat.le_of_ble_eq_true rfl), (Nat.le_of_ble_eq_true rfl)⟩ dL_tryAbout_2 (fun H locs hR hS => ?_)
    exact eTx X hR hS (Option.some.inj hf) (Nat.le_of_ble_eq_true rfl) (Nat.le_of_ble_eq_true rfl) dL_tryAbout_5
theorem zcL_tryAbout (l : Launch) (D : va_G) (cy : Nat → ClassId) (ad : Nat → Nat) (ba : Nat → Prop) (O : Int64) (S : teS) (x1 : Int32) (hl0 : l.stackTraces = false) (res : (Int32 × teS)) (hf : fL_tryAbout x1 S = some res) : lT l yL_tryAbout wsL_tryAbout rmL_tryAbout 1 6 D cy ad ba O S [.ref (ad 360), .int x1] res :=
  te_ofh (hh := [(0, 5, 6, 13)]) (by decide) rfl (Nat.le_of_ble_eq_true rfl) (fun p e s m below meth c ls X htab hR hS hl => bL_tryAbout_0 (S := S) (x1 := x1) X htab hl0 _ _ _ hR hS hl hf)
abbrev rmL_tryMember : Room := { frames := 8, cells := 1, slots := 6, locals := 134 }
theorem kdL_tryMember : yL_tryMember.cls = RL ∧ yL_tryMember.cls ≠ "java/lang/invoke/MethodHandle" ∧ yL_tryMember.cls ≠ "java/lang/invoke/VarHandle" ∧ (parseMethodDescriptor yL_tryMember.desc).map (fun d => d.parameters.length) = some 3 := by decide +kernel
theorem wL_tryMember_32 : Cond.constant RL 32 (-99001) ∈ wsL_tryMember := by decide +kernel
theorem wL_tryMember_k30 : Cond.classLink RL 30 "java/lang/IndexOutOfBoundsException" ∈ wsL_tryMember := by decide +kernel
theorem wL_tryMember_15 : Cond.constant RL 15 (-99002) ∈ wsL_tryMember := by decide +kernel
theorem wL_tryMember_k13 : Cond.classLink RL 13 "java/lang/IllegalArgumentException" ∈ wsL_tryMember := by decide +kernel
set_option maxRecDepth 100000 in
set_option maxHeartbeats 4000000 in
theorem bL_tryMember_0 {p : Program} {l : Launch} {e : Env} {s : State} {m : MethodId} {args : Array Value} {below : List Frame} {meth : Method} {c : Code} {D : va_G} {cy : Nat → ClassId} {ad : Nat → Nat} {ba : Nat → Prop} {O : Int64} {S : teS}  {x1 : Int32} {x2 : Int32} {res : (Int32 × teS)} (X : teC wsL_tryMember RL cL_tryMember 4 (some .int) D cy ba p s m args meth c) (htab : c.exceptionTable.toList = tableOf [(0, 6, 7, 30), (0, 6, 11, 13)]) (hl0 : l.stackTraces = false) (H : Heap) (locs : List Loc) (ls : Array Slot) (hR : teR D cy ad ba O S H) (hS : va_S (teA ba) s.heap H locs) (hl : lv_has ls 4 [(0, .ref (ad 360)), (1, .int x1), (2, .int x2)]) (hf : fL_tryMember x1 x2 S = some res) : W p l e (headSpec wsL_tryMember rmL_tryMember).room s m args below meth c H locs 0 0 (vx_MQ below (va_Qi (fun a (u : teS) => a = res.1 ∧ u = res.2) (fun u t => teR D cy ad ba O u t.heap) (teA ba)) (vx_X (fun _ : Unit => False) (fun _ _ _ => True) (teA ba)) args s 1 6 (teA ba)) (F0 m 0 ls []) := by
  have hx := X.1
  have hb := X.2.1
  have hown := X.2.2.2.2.1
  unfold fL_tryMember at hf
  refine lv_aload_n hx hb dL_tryMember_0 rfl (lv_at hl 0 rfl) ?_
  refine lv_iload_n hx hb dL_tryMember_1 rfl (lv_at hl 1 rfl) ?_
  refine lv_iload_n hx hb dL_tryMember_2 rfl (lv_at hl 2 rfl) ?_
  rcases bxw_some hf with ⟨e_1, hq_2, hf⟩ | ⟨r_3, S1, hq_2, hf⟩
  · by_cases c_4 : e_1 = 3
    · subst c_4
      replace hf := ite_t rfl hf
      refine kVql (id := 360) (As := [.int x1, .int x2]) (rest := []) X hR hS (zcX5_member l D cy ad ba O S x1 x2 hl0 _ hq_2) (cwV 2 X.2.2.2.2.2.1 gL_tryMember_X5_member rfl rfl rfl kdX5_member ⟨(Nat.le_of_ble_eq_true rfl), (Nat.le_of_ble_eq_true rfl)⟩) (by decide) rfl rfl rfl rfl hl.1 (Nat.le_of_ble_eq_true rfl) ⟨(Nat.le_of_ble_eq_true rfl), (Nat.le_of_ble_eq_true rfl)⟩ dL_tryMember_3 (fun ce q9 H locs hR hS h3 h4 h5 => ?_)
      refine te_catch (c0 := 3) X htab [] [(0, 6, 11, 13)] (0, 6, 7, 30) rfl (by decide) (by decide) (fun z hz => nomatch hz) (by decide) (by decide) wL_tryMember_k30 h3 h4 h5 ?_
      refine lv_astore_n (lv' := [(3, .ref q9), (0, .ref (ad 360)), (1, .int x1), (2, .int x2)]) hx hb dL_tryMember_7 rfl hl (by decide) rfl (fun ls hl => ?_)
      refine lv_ldc (v := (-99001 : Int32)) hx hb hown (X.2.2.2.2.2.1 _ wL_tryMember_32) dL_tryMember_8 ?_
      exact eTx X hR hS (Option.some.inj hf) (Nat.le_of_ble_eq_true rfl) (Nat.le_of_ble_eq_true rfl) dL_tryMember_10
    replace hf := ite_f c_4 hf
    by_cases c_5 : e_1 = 1
    · subst c_5
      replace hf := ite_t rfl hf
      refine kVql (id := 360) (As := [.int x1, .int x2]) (rest := []) X hR hS (zcX5_member l D cy ad ba O S x1 x2 hl0 _ hq_2) (cwV 2 X.2.2.2.2.2.1 gL_tryMember_X5_member rfl rfl rfl kdX5_member ⟨(Nat.le_of_ble_eq_true rfl), (Nat.le_of_ble_eq_true rfl)⟩) (by decide) rfl rfl rfl rfl hl.1 (Nat.le_of_ble_eq_true rfl) ⟨(Nat.le_of_ble_eq_true rfl), (Nat.le_of_ble_eq_true rfl)⟩ dL_tryMember_3 (fun ce q9 H locs hR hS h3 h4 h5 => ?_)
      refine te_catch (c0 := 1) X htab [(0, 6, 7, 30)] [] (0, 6, 11, 13) rfl (by decide) (by decide) (List.forall_mem_cons.mpr ⟨⟨by decide, 3, by decide, by decide, by decide, wL_tryMember_k30⟩, fun z hz => nomatch hz⟩) (by decide) (by decide) wL_tryMember_k13 h3 h4 h5 ?_
      refine lv_astore_n (lv' := [(3, .ref q9), (0, .ref (ad 360)), (1, .int x1), (2, .int x2)]) hx hb dL_tryMember_11 rfl hl (by decide) rfl (fun ls hl => ?_)
      refine lv_ldc (v := (-99002 : Int32)) hx hb hown (X.2.2.2.2.2.1 _ wL_tryMember_15) dL_tryMember_12 ?_
      exact eTx X hR hS (Option.some.inj hf) (Nat.le_of_ble_eq_true rfl) (Nat.le_of_ble_eq_true rfl) dL_tryMember_14
    replace hf := ite_f c_5 hf
    exact nomatch hf
  · refine kVqr (id := 360) (As := [.int x1, .int x2]) (rest := []) X hR hS (zcX5_member l D cy ad ba O S x1 x2 hl0 _ hq_2) (cwV 2 X.2.2.2.2.2.1 gL_tryMember_X5_member rfl rfl rfl kdX5_member ⟨(Nat.le_of_ble_eq_true rfl), (Nat.le_of_ble_eq_true rfl)⟩) (by decide) rfl rfl rfl rfl hl.1 (Nat.le_of_ble_eq_true rfl) ⟨(Nat.le_of_ble_eq_true rfl), (Nat.le_of_ble_eq_true rfl)⟩ dL_tryMember_3 (fun H locs hR hS => ?_)
    exact eTx X hR hS (Option.some.inj hf) (Nat.le_of_ble_eq_true rfl) (Nat.le_of_ble_eq_true rfl) dL_tryMember_6
theorem zcL_tryMember (l : Launch) (D : va_G) (cy : Nat → ClassId) (ad : Nat → Nat) (ba : Nat → Prop) (O : Int64) (S : teS) (x1 : Int32) (x2 : Int32) (hl0 : l.stackTraces = false) (res : (Int32 × teS)) (hf : fL_tryMember x1 x2 S = some res) : lT l yL_tryMember wsL_tryMember rmL_tryMember 1 6 D cy ad ba O S [.ref (ad 360), .int x1, .int x2] res :=
  te_ofh (hh := [(0, 6, 7, 30), (0, 6, 11, 13)]) (by decide) rfl (Nat.le_of_ble_eq_true rfl) (fun p e s m below meth c ls X htab hR hS hl => bL_tryMember_0 (S := S) (x1 := x1) (x2 := x2) X htab hl0 _ _ _ hR hS hl hf)
abbrev rmL_tryBoth : Room := { frames := 9, cells := 1, slots := 6, locals := 156 }
theorem kdL_tryBoth : yL_tryBoth.cls = RL ∧ yL_tryBoth.cls ≠ "java/lang/invoke/MethodHandle" ∧ yL_tryBoth.cls ≠ "java/lang/invoke/VarHandle" ∧ (parseMethodDescriptor yL_tryBoth.desc).map (fun d => d.parameters.length) = some 4 := by decide +kernel
theorem wL_tryBoth_32 : Cond.constant RL 32 (-99001) ∈ wsL_tryBoth := by decide +kernel
theorem wL_tryBoth_k30 : Cond.classLink RL 30 "java/lang/IndexOutOfBoundsException" ∈ wsL_tryBoth := by decide +kernel
theorem wL_tryBoth_15 : Cond.constant RL 15 (-99002) ∈ wsL_tryBoth := by decide +kernel
theorem wL_tryBoth_k13 : Cond.classLink RL 13 "java/lang/IllegalArgumentException" ∈ wsL_tryBoth := by decide +kernel
set_option maxRecDepth 100000 in
set_option maxHeartbeats 4000000 in
theorem bL_tryBoth_0 {p : Program} {l : Launch} {e : Env} {s : State} {m : MethodId} {args : Array Value} {below : List Frame} {meth : Method} {c : Code} {D : va_G} {cy : Nat → ClassId} {ad : Nat → Nat} {ba : Nat → Prop} {O : Int64} {S : teS}  {x1 : Int32} {x2 : Int32} {x3 : Int32} {res : (Int32 × teS)} (X : teC wsL_tryBoth RL cL_tryBoth 5 (some .int) D cy ba p s m args meth c) (htab : c.exceptionTable.toList = tableOf [(0, 7, 8, 30), (0, 7, 13, 13)]) (hl0 : l.stackTraces = false) (H : Heap) (locs : List Loc) (ls : Array Slot) (hR : teR D cy ad ba O S H) (hS : va_S (teA ba) s.heap H locs) (hl : lv_has ls 5 [(0, .ref (ad 360)), (1, .int x1), (2, .int x2), (3, .int x3)]) (hf : fL_tryBoth x1 x2 x3 S = some res) : W p l e (headSpec wsL_tryBoth rmL_tryBoth).room s m args below meth c H locs 0 0 (vx_MQ below (va_Qi (fun a (u : teS) => a = res.1 ∧ u = res.2) (fun u t => teR D cy ad ba O u t.heap) (teA ba)) (vx_X (fun _ : Unit => False) (fun _ _ _ => True) (teA ba)) args s 1 6 (teA ba)) (F0 m 0 ls []) := by
  have hx := X.1
  have hb := X.2.1
  have hown := X.2.2.2.2.1
  unfold fL_tryBoth at hf
  refine lv_aload_n hx hb dL_tryBoth_0 rfl (lv_at hl 0 rfl) ?_
  refine lv_iload_n hx hb dL_tryBoth_1 rfl (lv_at hl 1 rfl) ?_
  refine lv_iload_n hx hb dL_tryBoth_2 rfl (lv_at hl 2 rfl) ?_
  refine lv_iload_n hx hb dL_tryBoth_3 rfl (lv_at hl 3 rfl) ?_
  rcases bxw_some hf with ⟨e_1, hq_2, hf⟩ | ⟨r_3, S1, hq_2, hf⟩
  · by_cases c_4 : e_1 = 3
    · subst c_4
      replace hf := ite_t rfl hf
      refine kVql (id := 360) (As := [.int x1, .int x2, .int x3]) (rest := []) X hR hS (zcX5_both l D cy ad ba O S x1 x2 x3 hl0 _ hq_2) (cwV 3 X.2.2.2.2.2.1 gL_tryBoth_X5_both rfl rfl rfl kdX5_both ⟨(Nat.le_of_ble_eq_true rfl), (Nat.le_of_ble_eq_true rfl)⟩) (by decide) rfl rfl rfl rfl hl.1 (Nat.le_of_ble_eq_true rfl) ⟨(Nat.le_of_ble_eq_true rfl), (Nat.le_of_ble_eq_true rfl)⟩ dL_tryBoth_4 (fun ce q9 H locs hR hS h3 h4 h5 => ?_)
      refine te_catch (c0 := 3) X htab [] [(0, 7, 13, 13)] (0, 7, 8, 30) rfl (by decide) (by decide) (fun z hz => nomatch hz) (by decide) (by decide) wL_tryBoth_k30 h3 h4 h5 ?_
      refine lv_astore (lv' := [(4, .ref q9), (0, .ref (ad 360)), (1, .int x1), (2, .int x2), (3, .int x3)]) hx hb dL_tryBoth_8 hl (by decide) rfl (fun ls hl => ?_)
      refine lv_ldc (v := (-99001 : Int32)) hx hb hown (X.2.2.2.2.2.1 _ wL_tryBoth_32) dL_tryBoth_10 ?_
      exact eTx X hR hS (Option.some.inj hf) (Nat.le_of_ble_eq_true rfl) (Nat.le_of_ble_eq_true rfl) dL_tryBoth_12
    replace hf := ite_f c_4 hf
    by_cases c_5 : e_1 = 1
    · subst c_5
      replace hf := ite_t rfl hf
      refine kVql (id := 360) (As := [.int x1, .int x2, .int x3]) (rest := []) X hR hS (zcX5_both l D cy ad ba O S x1 x2 x3 hl0 _ hq_2) (cwV 3 X.2.2.2.2.2.1 gL_tryBoth_X5_both rfl rfl rfl kdX5_both ⟨(Nat.le_of_ble_eq_true rfl), (Nat.le_of_ble_eq_true rfl)⟩) (by decide) rfl rfl rfl rfl hl.1 (Nat.le_of_ble_eq_true rfl) ⟨(Nat.le_of_ble_eq_true rfl), (Nat.le_of_ble_eq_true rfl)⟩ dL_tryBoth_4 (fun ce q9 H locs hR hS h3 h4 h5 => ?_)
      refine te_catch (c0 := 1) X htab [(0, 7, 8, 30)] [] (0, 7, 13, 13) rfl (by decide) (by decide) (List.forall_mem_cons.mpr ⟨⟨by decide, 3, by decide, by decide, by decide, wL_tryBoth_k30⟩, fun z hz => nomatch hz⟩) (by decide) (by decide) wL_tryBoth_k13 h3 h4 h5 ?_
      refine lv_astore (lv' := [(4, .ref q9), (0, .ref (ad 360)), (1, .int x1), (2, .int x2), (3, .int x3)]) hx hb dL_tryBoth_13 hl (by decide) rfl (fun ls hl => ?_)
      refine lv_ldc (v := (-99002 : Int32)) hx hb hown (X.2.2.2.2.2.1 _ wL_tryBoth_15) dL_tryBoth_15 ?_
      exact eTx X hR hS (Option.some.inj hf) (Nat.le_of_ble_eq_true rfl) (Nat.le_of_ble_eq_true rfl) dL_tryBoth_17
    replace hf := ite_f c_5 hf
    exact nomatch hf
  · refine kVqr (id := 360) (As := [.int x1, .int x2, .int x3]) (rest := []) X hR hS (zcX5_both l D cy ad ba O S x1 x2 x3 hl0 _ hq_2) (cwV 3 X.2.2.2.2.2.1 gL_tryBoth_X5_both rfl rfl rfl kdX5_both ⟨(Nat.le_of_ble_eq_true rfl), (Nat.le_of_ble_eq_true rfl)⟩) (by decide) rfl rfl rfl rfl hl.1 (Nat.le_of_ble_eq_true rfl) ⟨(Nat.le_of_ble_eq_true rfl), (Nat.le_of_ble_eq_true rfl)⟩ dL_tryBoth_4 (fun H locs hR hS => ?_)
    exact eTx X hR hS (Option.some.inj hf) (Nat.le_of_ble_eq_true rfl) (Nat.le_of_ble_eq_true rfl) dL_tryBoth_7
theorem zcL_tryBoth (l : Launch) (D : va_G) (cy : Nat → ClassId) (ad : Nat → Nat) (ba : Nat → Prop) (O : Int64) (S : teS) (x1 : Int32) (x2 : Int32) (x3 : Int32) (hl0 : l.stackTraces = false) (res : (Int32 × teS)) (hf : fL_tryBoth x1 x2 x3 S = some res) : lT l yL_tryBoth wsL_tryBoth rmL_tryBoth 1 6 D cy ad ba O S [.ref (ad 360), .int x1, .int x2, .int x3] res :=
  te_ofh (hh := [(0, 7, 8, 30), (0, 7, 13, 13)]) (by decide) rfl (Nat.le_of_ble_eq_true rfl) (fun p e s m below meth c ls X htab hR hS hl => bL_tryBoth_0 (S := S) (x1 := x1) (x2 := x2) (x3 := x3) X htab hl0 _ _ _ hR hS hl hf)
abbrev rmL_tryJoin : Room := { frames := 9, cells := 1, slots := 6, locals := 155 }
theorem kdL_tryJoin : yL_tryJoin.cls = RL ∧ yL_tryJoin.cls ≠ "java/lang/invoke/MethodHandle" ∧ yL_tryJoin.cls ≠ "java/lang/invoke/VarHandle" ∧ (parseMethodDescriptor yL_tryJoin.desc).map (fun d => d.parameters.length) = some 4 := by decide +kernel
theorem wL_tryJoin_15 : Cond.constant RL 15 (-99002) ∈ wsL_tryJoin := by decide +kernel
theorem wL_tryJoin_k13 : Cond.classLink RL 13 "java/lang/IllegalArgumentException" ∈ wsL_tryJoin := by decide +kernel
theorem wL_tryJoin_18 : Cond.constant RL 18 (-99003) ∈ wsL_tryJoin := by decide +kernel
theorem wL_tryJoin_k16 : Cond.classLink RL 16 "java/lang/IllegalStateException" ∈ wsL_tryJoin := by decide +kernel
set_option maxRecDepth 100000 in
set_option maxHeartbeats 4000000 in
theorem bL_tryJoin_0 {p : Program} {l : Launch} {e : Env} {s : State} {m : MethodId} {args : Array Value} {below : List Frame} {meth : Method} {c : Code} {D : va_G} {cy : Nat → ClassId} {ad : Nat → Nat} {ba : Nat → Prop} {O : Int64} {S : teS}  {x1 : Int32} {x2 : Int32} {x3 : Int32} {res : (Int32 × teS)} (X : teC wsL_tryJoin RL cL_tryJoin 5 (some .int) D cy ba p s m args meth c) (htab : c.exceptionTable.toList = tableOf [(0, 7, 8, 13), (0, 7, 13, 16)]) (hl0 : l.stackTraces = false) (H : Heap) (locs : List Loc) (ls : Array Slot) (hR : teR D cy ad ba O S H) (hS : va_S (teA ba) s.heap H locs) (hl : lv_has ls 5 [(0, .ref (ad 360)), (1, .int x1), (2, .int x2), (3, .int x3)]) (hf : fL_tryJoin x1 x2 x3 S = some res) : W p l e (headSpec wsL_tryJoin rmL_tryJoin).room s m args below meth c H locs 0 0 (vx_MQ below (va_Qi (fun a (u : teS) => a = res.1 ∧ u = res.2) (fun u t => teR D cy ad ba O u t.heap) (teA ba)) (vx_X (fun _ : Unit => False) (fun _ _ _ => True) (teA ba)) args s 1 6 (teA ba)) (F0 m 0 ls []) := by
  have hx := X.1
  have hb := X.2.1
  have hown := X.2.2.2.2.1
  unfold fL_tryJoin at hf
  refine lv_aload_n hx hb dL_tryJoin_0 rfl (lv_at hl 0 rfl) ?_
  refine lv_iload_n hx hb dL_tryJoin_1 rfl (lv_at hl 1 rfl) ?_
  refine lv_iload_n hx hb dL_tryJoin_2 rfl (lv_at hl 2 rfl) ?_
  refine lv_iload_n hx hb dL_tryJoin_3 rfl (lv_at hl 3 rfl) ?_
  rcases bxw_some hf with ⟨e_1, hq_2, hf⟩ | ⟨r_3, S1, hq_2, hf⟩
  · by_cases c_4 : e_1 = 1
    · subst c_4
      replace hf := ite_t rfl hf
      refine kVql (id := 360) (As := [.int x1, .int x2, .int x3]) (rest := []) X hR hS (zcX5_join l D cy ad ba O S x1 x2 x3 hl0 _ hq_2) (cwV 3 X.2.2.2.2.2.1 gL_tryJoin_X5_join rfl rfl rfl kdX5_join ⟨(Nat.le_of_ble_eq_true rfl), (Nat.le_of_ble_eq_true rfl)⟩) (by decide) rfl rfl rfl rfl hl.1 (Nat.le_of_ble_eq_true rfl) ⟨(Nat.le_of_ble_eq_true rfl), (Nat.le_of_ble_eq_true rfl)⟩ dL_tryJoin_4 (fun ce q9 H locs hR hS h3 h4 h5 => ?_)
      refine te_catch (c0 := 1) X htab [] [(0, 7, 13, 16)] (0, 7, 8, 13) rfl (by decide) (by decide) (fun z hz => nomatch hz) (by decide) (by decide) wL_tryJoin_k13 h3 h4 h5 ?_
      refine lv_astore (lv' := [(4, .ref q9), (0, .ref (ad 360)), (1, .int x1), (2, .int x2), (3, .int x3)]) hx hb dL_tryJoin_8 hl (by decide) rfl (fun ls hl => ?_)
      refine lv_ldc (v := (-99002 : Int32)) hx hb hown (X.2.2.2.2.2.1 _ wL_tryJoin_15) dL_tryJoin_10 ?_
      exact eTx X hR hS (Option.some.inj hf) (Nat.le_of_ble_eq_true rfl) (Nat.le_of_ble_eq_true rfl) dL_tryJoin_12
    replace hf := ite_f c_4 hf
    by_cases c_5 : e_1 = 2
    · subst c_5
      replace hf := ite_t rfl hf
      refine kVql (id := 360) (As := [.int x1, .int x2, .int x3]) (rest := []) X hR hS (zcX5_join l D cy ad ba O S x1 x2 x3 hl0 _ hq_2) (cwV 3 X.2.2.2.2.2.1 gL_tryJoin_X5_join rfl rfl rfl kdX5_join ⟨(Nat.le_of_ble_eq_true rfl), (Nat.le_of_ble_eq_true rfl)⟩) (by decide) rfl rfl rfl rfl hl.1 (Nat.le_of_ble_eq_true rfl) ⟨(Nat.le_of_ble_eq_true rfl), (Nat.le_of_ble_eq_true rfl)⟩ dL_tryJoin_4 (fun ce q9 H locs hR hS h3 h4 h5 => ?_)
      refine te_catch (c0 := 2) X htab [(0, 7, 8, 13)] [] (0, 7, 13, 16) rfl (by decide) (by decide) (List.forall_mem_cons.mpr ⟨⟨by decide, 1, by decide, by decide, by decide, wL_tryJoin_k13⟩, fun z hz => nomatch hz⟩) (by decide) (by decide) wL_tryJoin_k16 h3 h4 h5 ?_
      refine lv_astore (lv' := [(4, .ref q9), (0, .ref (ad 360)), (1, .int x1), (2, .int x2), (3, .int x3)]) hx hb dL_tryJoin_13 hl (by decide) rfl (fun ls hl => ?_)
      refine lv_ldc (v := (-99003 : Int32)) hx hb hown (X.2.2.2.2.2.1 _ wL_tryJoin_18) dL_tryJoin_15 ?_
      exact eTx X hR hS (Option.some.inj hf) (Nat.le_of_ble_eq_true rfl) (Nat.le_of_ble_eq_true rfl) dL_tryJoin_17
    replace hf := ite_f c_5 hf
    exact nomatch hf
  · refine kVqr (id := 360) (As := [.int x1, .int x2, .int x3]) (rest := []) X hR hS (zcX5_join l D cy ad ba O S x1 x2 x3 hl0 _ hq_2) (cwV 3 X.2.2.2.2.2.1 gL_tryJoin_X5_join rfl rfl rfl kdX5_join ⟨(Nat.le_of_ble_eq_true rfl), (Nat.le_of_ble_eq_true rfl)⟩) (by decide) rfl rfl rfl rfl hl.1 (Nat.le_of_ble_eq_true rfl) ⟨(Nat.le_of_ble_eq_true rfl), (Nat.le_of_ble_eq_true rfl)⟩ dL_tryJoin_4 (fun H locs hR hS => ?_)
    exact eTx X hR hS (Option.some.inj hf) (Nat.le_of_ble_eq_true rfl) (Nat.le_of_ble_eq_true rfl) dL_tryJoin_7
theorem zcL_tryJoin (l : Launch) (D : va_G) (cy : Nat → ClassId) (ad : Nat → Nat) (ba : Nat → Prop) (O : Int64) (S : teS) (x1 : Int32) (x2 : Int32) (x3 : Int32) (hl0 : l.stackTraces = false) (res : (Int32 × teS)) (hf : fL_tryJoin x1 x2 x3 S = some res) : lT l yL_tryJoin wsL_tryJoin rmL_tryJoin 1 6 D cy ad ba O S [.ref (ad 360), .int x1, .int x2, .int x3] res :=
  te_ofh (hh := [(0, 7, 8, 13), (0, 7, 13, 16)]) (by decide) rfl (Nat.le_of_ble_eq_true rfl) (fun p e s m below meth c ls X htab hR hS hl => bL_tryJoin_0 (S := S) (x1 := x1) (x2 := x2) (x3 := x3) X htab hl0 _ _ _ hR hS hl hf)
abbrev rmL_tryLeave : Room := { frames := 8, cells := 1, slots := 6, locals := 146 }
theorem kdL_tryLeave : yL_tryLeave.cls = RL ∧ yL_tryLeave.cls ≠ "java/lang/invoke/MethodHandle" ∧ yL_tryLeave.cls ≠ "java/lang/invoke/VarHandle" ∧ (parseMethodDescriptor yL_tryLeave.desc).map (fun d => d.parameters.length) = some 2 := by decide +kernel
theorem wL_tryLeave_32 : Cond.constant RL 32 (-99001) ∈ wsL_tryLeave := by decide +kernel
theorem wL_tryLeave_k30 : Cond.classLink RL 30 "java/lang/IndexOutOfBoundsException" ∈ wsL_tryLeave := by decide +kernel
set_option maxRecDepth 100000 in
set_option maxHeartbeats 4000000 in
theorem bL_tryLeave_0 {p : Program} {l : Launch} {e : Env} {s : State} {m : MethodId} {args : Array Value} {below : List Frame} {meth : Method} {c : Code} {D : va_G} {cy : Nat → ClassId} {ad : Nat → Nat} {ba : Nat → Prop} {O : Int64} {S : teS}  {x1 : Int32} {res : (Int32 × teS)} (X : teC wsL_tryLeave RL cL_tryLeave 3 (some .int) D cy ba p s m args meth c) (htab : c.exceptionTable.toList = tableOf [(0, 5, 6, 30)]) (hl0 : l.stackTraces = false) (H : Heap) (locs : List Loc) (ls : Array Slot) (hR : teR D cy ad ba O S H) (hS : va_S (teA ba) s.heap H locs) (hl : lv_has ls 3 [(0, .ref (ad 360)), (1, .int x1)]) (hf : fL_tryLeave x1 S = some res) : W p l e (headSpec wsL_tryLeave rmL_tryLeave).room s m args below meth c H locs 0 0 (vx_MQ below (va_Qi (fun a (u : teS) => a = res.1 ∧ u = res.2) (fun u t => teR D cy ad ba O u t.heap) (teA ba)) (vx_X (fun _ : Unit => False) (fun _ _ _ => True) (teA ba)) args s 1 6 (teA ba)) (F0 m 0 ls []) := by
  have hx := X.1
  have hb := X.2.1
  have hown := X.2.2.2.2.1
  unfold fL_tryLeave at hf
  refine lv_aload_n hx hb dL_tryLeave_0 rfl (lv_at hl 0 rfl) ?_
  refine lv_iload_n hx hb dL_tryLeave_1 rfl (lv_at hl 1 rfl) ?_
  rcases bxw_some hf with ⟨e_1, hq_2, hf⟩ | ⟨r_3, S1, hq_2, hf⟩
  · by_cases c_4 : e_1 = 3
    · subst c_4
      replace hf := ite_t rfl hf
      refine kVql (id := 360) (As := [.int x1]) (rest := []) X hR hS (zcX5_leave l D cy ad ba O S x1 hl0 _ hq_2) (cwV 1 X.2.2.2.2.2.1 gL_tryLeave_X5_leave rfl rfl rfl kdX5_leave ⟨(Nat.le_of_ble_eq_true rfl), (Nat.le_of_ble_eq_true rfl)⟩) (by decide) rfl rfl rfl rfl hl.1 (Nat.le_of_ble_eq_true rfl) ⟨(Nat.le_of_ble_eq_true rfl), (Nat.le_of_ble_eq_true rfl)⟩ dL_tryLeave_2 (fun ce q9 H locs hR hS h3 h4 h5 => ?_)
      refine te_catch (c0 := 3) X htab [] [] (0, 5, 6, 30) rfl (by decide) (by decide) (fun z hz => nomatch hz) (by decide) (by decide) wL_tryLeave_k30 h3 h4 h5 ?_
      refine lv_astore_n (lv' := [(2, .ref q9), (0, .ref (ad 360)), (1, .int x1)]) hx hb dL_tryLeave_6 rfl hl (by decide) rfl (fun ls hl => ?_)
      refine lv_ldc (v := (-99001 : Int32)) hx hb hown (X.2.2.2.2.2.1 _ wL_tryLeave_32) dL_tryLeave_7 ?_
      exact eTx X hR hS (Option.some.inj hf) (Nat.le_of_ble_eq_true rfl) (Nat.le_of_ble_eq_true rfl) dL_tryLeave_9
    replace hf := ite_f c_4 hf
    exact nomatch hf
  · refine kVqr (id := 360) (As := [.int x1]) (rest := []) X hR hS (zcX5_leave l D cy ad ba O S x1 hl0 _ hq_2) (cwV 1 X.2.2.2.2.2.1 gL_tryLeave_X5_leave rfl rfl rfl kdX5_leave ⟨(Nat.le_of_ble_eq_true rfl), (Nat.le_of_ble_eq_true rfl)⟩) (by decide) rfl rfl rfl rfl hl.1 (Nat.le_of_ble_eq_true rfl) ⟨(Nat.le_of_ble_eq_true rfl), (Nat.le_of_ble_eq_true rfl)⟩ dL_tryLeave_2 (fun H locs hR hS => ?_)
    exact eTx X hR hS (Option.some.inj hf) (Nat.le_of_ble_eq_true rfl) (Nat.le_of_ble_eq_true rfl) dL_tryLeave_5
theorem zcL_tryLeave (l : Launch) (D : va_G) (cy : Nat → ClassId) (ad : Nat → Nat) (ba : Nat → Prop) (O : Int64) (S : teS) (x1 : Int32) (hl0 : l.stackTraces = false) (res : (Int32 × teS)) (hf : fL_tryLeave x1 S = some res) : lT l yL_tryLeave wsL_tryLeave rmL_tryLeave 1 6 D cy ad ba O S [.ref (ad 360), .int x1] res :=
  te_ofh (hh := [(0, 5, 6, 30)]) (by decide) rfl (Nat.le_of_ble_eq_true rfl) (fun p e s m below meth c ls X htab hR hS hl => bL_tryLeave_0 (S := S) (x1 := x1) X htab hl0 _ _ _ hR hS hl hf)
abbrev rmL_tryWant : Room := { frames := 9, cells := 1, slots := 6, locals := 155 }
theorem kdL_tryWant : yL_tryWant.cls = RL ∧ yL_tryWant.cls ≠ "java/lang/invoke/MethodHandle" ∧ yL_tryWant.cls ≠ "java/lang/invoke/VarHandle" ∧ (parseMethodDescriptor yL_tryWant.desc).map (fun d => d.parameters.length) = some 3 := by decide +kernel
theorem wL_tryWant_32 : Cond.constant RL 32 (-99001) ∈ wsL_tryWant := by decide +kernel
theorem wL_tryWant_k30 : Cond.classLink RL 30 "java/lang/IndexOutOfBoundsException" ∈ wsL_tryWant := by decide +kernel
theorem wL_tryWant_15 : Cond.constant RL 15 (-99002) ∈ wsL_tryWant := by decide +kernel
theorem wL_tryWant_k13 : Cond.classLink RL 13 "java/lang/IllegalArgumentException" ∈ wsL_tryWant := by decide +kernel
set_option maxRecDepth 100000 in
set_option maxHeartbeats 4000000 in
theorem bL_tryWant_0 {p : Program} {l : Launch} {e : Env} {s : State} {m : MethodId} {args : Array Value} {below : List Frame} {meth : Method} {c : Code} {D : va_G} {cy : Nat → ClassId} {ad : Nat → Nat} {ba : Nat → Prop} {O : Int64} {S : teS}  {x1 : Int32} {x2 : Int32} {res : (Int32 × teS)} (X : teC wsL_tryWant RL cL_tryWant 4 (some .int) D cy ba p s m args meth c) (htab : c.exceptionTable.toList = tableOf [(0, 6, 7, 30), (0, 6, 11, 13)]) (hl0 : l.stackTraces = false) (H : Heap) (locs : List Loc) (ls : Array Slot) (hR : teR D cy ad ba O S H) (hS : va_S (teA ba) s.heap H locs) (hl : lv_has ls 4 [(0, .ref (ad 360)), (1, .int x1), (2, .int x2)]) (hf : fL_tryWant x1 x2 S = some res) : W p l e (headSpec wsL_tryWant rmL_tryWant).room s m args below meth c H locs 0 0 (vx_MQ below (va_Qi (fun a (u : teS) => a = res.1 ∧ u = res.2) (fun u t => teR D cy ad ba O u t.heap) (teA ba)) (vx_X (fun _ : Unit => False) (fun _ _ _ => True) (teA ba)) args s 1 6 (teA ba)) (F0 m 0 ls []) := by
  have hx := X.1
  have hb := X.2.1
  have hown := X.2.2.2.2.1
  unfold fL_tryWant at hf
  refine lv_aload_n hx hb dL_tryWant_0 rfl (lv_at hl 0 rfl) ?_
  refine lv_iload_n hx hb dL_tryWant_1 rfl (lv_at hl 1 rfl) ?_
  refine lv_iload_n hx hb dL_tryWant_2 rfl (lv_at hl 2 rfl) ?_
  rcases bxw_some hf with ⟨e_1, hq_2, hf⟩ | ⟨r_3, S1, hq_2, hf⟩
  · by_cases c_4 : e_1 = 3
    · subst c_4
      replace hf := ite_t rfl hf
      refine kVql (id := 360) (As := [.int x1, .int x2]) (rest := []) X hR hS (zcX5_want l D cy ad ba O S x1 x2 hl0 _ hq_2) (cwV 2 X.2.2.2.2.2.1 gL_tryWant_X5_want rfl rfl rfl kdX5_want ⟨(Nat.le_of_ble_eq_true rfl), (Nat.le_of_ble_eq_true rfl)⟩) (by decide) rfl rfl rfl rfl hl.1 (Nat.le_of_ble_eq_true rfl) ⟨(Nat.le_of_ble_eq_true rfl), (Nat.le_of_ble_eq_true rfl)⟩ dL_tryWant_3 (fun ce q9 H locs hR hS h3 h4 h5 => ?_)
      refine te_catch (c0 := 3) X htab [] [(0, 6, 11, 13)] (0, 6, 7, 30) rfl (by decide) (by decide) (fun z hz => nomatch hz) (by decide) (by decide) wL_tryWant_k30 h3 h4 h5 ?_
      refine lv_astore_n (lv' := [(3, .ref q9), (0, .ref (ad 360)), (1, .int x1), (2, .int x2)]) hx hb dL_tryWant_7 rfl hl (by decide) rfl (fun ls hl => ?_)
      refine lv_ldc (v := (-99001 : Int32)) hx hb hown (X.2.2.2.2.2.1 _ wL_tryWant_32) dL_tryWant_8 ?_
      exact eTx X hR hS (Option.some.inj hf) (Nat.le_of_ble_eq_true rfl) (Nat.le_of_ble_eq_true rfl) dL_tryWant_10
    replace hf := ite_f c_4 hf
    by_cases c_5 : e_1 = 1
    · subst c_5
      replace hf := ite_t rfl hf
      refine kVql (id := 360) (As := [.int x1, .int x2]) (rest := []) X hR hS (zcX5_want l D cy ad ba O S x1 x2 hl0 _ hq_2) (cwV 2 X.2.2.2.2.2.1 gL_tryWant_X5_want rfl rfl rfl kdX5_want ⟨(Nat.le_of_ble_eq_true rfl), (Nat.le_of_ble_eq_true rfl)⟩) (by decide) rfl rfl rfl rfl hl.1 (Nat.le_of_ble_eq_true rfl) ⟨(Nat.le_of_ble_eq_true rfl), (Nat.le_of_ble_eq_true rfl)⟩ dL_tryWant_3 (fun ce q9 H locs hR hS h3 h4 h5 => ?_)
      refine te_catch (c0 := 1) X htab [(0, 6, 7, 30)] [] (0, 6, 11, 13) rfl (by decide) (by decide) (List.forall_mem_cons.mpr ⟨⟨by decide, 3, by decide, by decide, by decide, wL_tryWant_k30⟩, fun z hz => nomatch hz⟩) (by decide) (by decide) wL_tryWant_k13 h3 h4 h5 ?_
      refine lv_astore_n (lv' := [(3, .ref q9), (0, .ref (ad 360)), (1, .int x1), (2, .int x2)]) hx hb dL_tryWant_11 rfl hl (by decide) rfl (fun ls hl => ?_)
      refine lv_ldc (v := (-99002 : Int32)) hx hb hown (X.2.2.2.2.2.1 _ wL_tryWant_15) dL_tryWant_12 ?_
      exact eTx X hR hS (Option.some.inj hf) (Nat.le_of_ble_eq_true rfl) (Nat.le_of_ble_eq_true rfl) dL_tryWant_14
    replace hf := ite_f c_5 hf
    exact nomatch hf
  · refine kVqr (id := 360) (As := [.int x1, .int x2]) (rest := []) X hR hS (zcX5_want l D cy ad ba O S x1 x2 hl0 _ hq_2) (cwV 2 X.2.2.2.2.2.1 gL_tryWant_X5_want rfl rfl rfl kdX5_want ⟨(Nat.le_of_ble_eq_true rfl), (Nat.le_of_ble_eq_true rfl)⟩) (by decide) rfl rfl rfl rfl hl.1 (Nat.le_of_ble_eq_true rfl) ⟨(Nat.le_of_ble_eq_true rfl), (Nat.le_of_ble_eq_true rfl)⟩ dL_tryWant_3 (fun H locs hR hS => ?_)
    exact eTx X hR hS (Option.some.inj hf) (Nat.le_of_ble_eq_true rfl) (Nat.le_of_ble_eq_true rfl) dL_tryWant_6
theorem zcL_tryWant (l : Launch) (D : va_G) (cy : Nat → ClassId) (ad : Nat → Nat) (ba : Nat → Prop) (O : Int64) (S : teS) (x1 : Int32) (x2 : Int32) (hl0 : l.stackTraces = false) (res : (Int32 × teS)) (hf : fL_tryWant x1 x2 S = some res) : lT l yL_tryWant wsL_tryWant rmL_tryWant 1 6 D cy ad ba O S [.ref (ad 360), .int x1, .int x2] res :=
  te_ofh (hh := [(0, 6, 7, 30), (0, 6, 11, 13)]) (by decide) rfl (Nat.le_of_ble_eq_true rfl) (fun p e s m below meth c ls X htab hR hS hl => bL_tryWant_0 (S := S) (x1 := x1) (x2 := x2) X htab hl0 _ _ _ hR hS hl hf)
abbrev rmL_tryTest : Room := { frames := 9, cells := 1, slots := 6, locals := 156 }
theorem kdL_tryTest : yL_tryTest.cls = RL ∧ yL_tryTest.cls ≠ "java/lang/invoke/MethodHandle" ∧ yL_tryTest.cls ≠ "java/lang/invoke/VarHandle" ∧ (parseMethodDescriptor yL_tryTest.desc).map (fun d => d.parameters.length) = some 4 := by decide +kernel
theorem wL_tryTest_32 : Cond.constant RL 32 (-99001) ∈ wsL_tryTest := by decide +kernel
theorem wL_tryTest_k30 : Cond.classLink RL 30 "java/lang/IndexOutOfBoundsException" ∈ wsL_tryTest := by decide +kernel
theorem wL_tryTest_15 : Cond.constant RL 15 (-99002) ∈ wsL_tryTest := by decide +kernel
theorem wL_tryTest_k13 : Cond.classLink RL 13 "java/lang/IllegalArgumentException" ∈ wsL_tryTest := by decide +kernel
set_option maxRecDepth 100000 in
set_option maxHeartbeats 4000000 in
theorem bL_tryTest_0 {p : Program} {l : Launch} {e : Env} {s : State} {m : MethodId} {args : Array Value} {below : List Frame} {meth : Method} {c : Code} {D : va_G} {cy : Nat → ClassId} {ad : Nat → Nat} {ba : Nat → Prop} {O : Int64} {S : teS}  {x1 : Int32} {x2 : Int32} {x3 : Int32} {res : (Int32 × teS)} (X : teC wsL_tryTest RL cL_tryTest 5 (some .int) D cy ba p s m args meth c) (htab : c.exceptionTable.toList = tableOf [(0, 7, 8, 30), (0, 7, 13, 13)]) (hl0 : l.stackTraces = false) (H : Heap) (locs : List Loc) (ls : Array Slot) (hR : teR D cy ad ba O S H) (hS : va_S (teA ba) s.heap H locs) (hl : lv_has ls 5 [(0, .ref (ad 360)), (1, .int x1), (2, .int x2), (3, .int x3)]) (hf : fL_tryTest x1 x2 x3 S = some res) : W p l e (headSpec wsL_tryTest rmL_tryTest).room s m args below meth c H locs 0 0 (vx_MQ below (va_Qi (fun a (u : teS) => a = res.1 ∧ u = res.2) (fun u t => teR D cy ad ba O u t.heap) (teA ba)) (vx_X (fun _ : Unit => False) (fun _ _ _ => True) (teA ba)) args s 1 6 (teA ba)) (F0 m 0 ls []) := by
  have hx := X.1
  have hb := X.2.1
  have hown := X.2.2.2.2.1
  unfold fL_tryTest at hf
  refine lv_aload_n hx hb dL_tryTest_0 rfl (lv_at hl 0 rfl) ?_
  refine lv_iload_n hx hb dL_tryTest_1 rfl (lv_at hl 1 rfl) ?_
  refine lv_iload_n hx hb dL_tryTest_2 rfl (lv_at hl 2 rfl) ?_
  refine lv_iload_n hx hb dL_tryTest_3 rfl (lv_at hl 3 rfl) ?_
  rcases bxw_some hf with ⟨e_1, hq_2, hf⟩ | ⟨r_3, S1, hq_2, hf⟩
  · by_cases c_4 : e_1 = 3
    · subst c_4
      replace hf := ite_t rfl hf
      refine kVql (id := 360) (As := [.int x1, .int x2, .int x3]) (rest := []) X hR hS (zcX5_test l D cy ad ba O S x1 x2 x3 hl0 _ hq_2) (cwV 3 X.2.2.2.2.2.1 gL_tryTest_X5_test rfl rfl rfl kdX5_test ⟨(Nat.le_of_ble_eq_true rfl), (Nat.le_of_ble_eq_true rfl)⟩) (by decide) rfl rfl rfl rfl hl.1 (Nat.le_of_ble_eq_true rfl) ⟨(Nat.le_of_ble_eq_true rfl), (Nat.le_of_ble_eq_true rfl)⟩ dL_tryTest_4 (fun ce q9 H locs hR hS h3 h4 h5 => ?_)
      refine te_catch (c0 := 3) X htab [] [(0, 7, 13, 13)] (0, 7, 8, 30) rfl (by decide) (by decide) (fun z hz => nomatch hz) (by decide) (by decide) wL_tryTest_k30 h3 h4 h5 ?_
      refine lv_astore (lv' := [(4, .ref q9), (0, .ref (ad 360)), (1, .int x1), (2, .int x2), (3, .int x3)]) hx hb dL_tryTest_8 hl (by decide) rfl (fun ls hl => ?_)
      refine lv_ldc (v := (-99001 : Int32)) hx hb hown (X.2.2.2.2.2.1 _ wL_tryTest_32) dL_tryTest_10 ?_
      exact eTx X hR hS (Option.some.inj hf) (Nat.le_of_ble_eq_true rfl) (Nat.le_of_ble_eq_true rfl) dL_tryTest_12
    replace hf := ite_f c_4 hf
    by_cases c_5 : e_1 = 1
    · subst c_5
      replace hf := ite_t rfl hf
      refine kVql (id := 360) (As := [.int x1, .int x2, .int x3]) (rest := []) X hR hS (zcX5_test l D cy ad ba O S x1 x2 x3 hl0 _ hq_2) (cwV 3 X.2.2.2.2.2.1 gL_tryTest_X5_test rfl rfl rfl kdX5_test ⟨(Nat.le_of_ble_eq_true rfl), (Nat.le_of_ble_eq_true rfl)⟩) (by decide) rfl rfl rfl rfl hl.1 (Nat.le_of_ble_eq_true rfl) ⟨(Nat.le_of_ble_eq_true rfl), (Nat.le_of_ble_eq_true rfl)⟩ dL_tryTest_4 (fun ce q9 H locs hR hS h3 h4 h5 => ?_)
      refine te_catch (c0 := 1) X htab [(0, 7, 8, 30)] [] (0, 7, 13, 13) rfl (by decide) (by decide) (List.forall_mem_cons.mpr ⟨⟨by decide, 3, by decide, by decide, by decide, wL_tryTest_k30⟩, fun z hz => nomatch hz⟩) (by decide) (by decide) wL_tryTest_k13 h3 h4 h5 ?_
      refine lv_astore (lv' := [(4, .ref q9), (0, .ref (ad 360)), (1, .int x1), (2, .int x2), (3, .int x3)]) hx hb dL_tryTest_13 hl (by decide) rfl (fun ls hl => ?_)
      refine lv_ldc (v := (-99002 : Int32)) hx hb hown (X.2.2.2.2.2.1 _ wL_tryTest_15) dL_tryTest_15 ?_
      exact eTx X hR hS (Option.some.inj hf) (Nat.le_of_ble_eq_true rfl) (Nat.le_of_ble_eq_true rfl) dL_tryTest_17
    replace hf := ite_f c_5 hf
    exact nomatch hf
  · refine kVqr (id := 360) (As := [.int x1, .int x2, .int x3]) (rest := []) X hR hS (zcX5_test l D cy ad ba O S x1 x2 x3 hl0 _ hq_2) (cwV 3 X.2.2.2.2.2.1 gL_tryTest_X5_test rfl rfl rfl kdX5_test ⟨(Nat.le_of_ble_eq_true rfl), (Nat.le_of_ble_eq_true rfl)⟩) (by decide) rfl rfl rfl rfl hl.1 (Nat.le_of_ble_eq_true rfl) ⟨(Nat.le_of_ble_eq_true rfl), (Nat.le_of_ble_eq_true rfl)⟩ dL_tryTest_4 (fun H locs hR hS => ?_)
    exact eTx X hR hS (Option.some.inj hf) (Nat.le_of_ble_eq_true rfl) (Nat.le_of_ble_eq_true rfl) dL_tryTest_7
theorem zcL_tryTest (l : Launch) (D : va_G) (cy : Nat → ClassId) (ad : Nat → Nat) (ba : Nat → Prop) (O : Int64) (S : teS) (x1 : Int32) (x2 : Int32) (x3 : Int32) (hl0 : l.stackTraces = false) (res : (Int32 × teS)) (hf : fL_tryTest x1 x2 x3 S = some res) : lT l yL_tryTest wsL_tryTest rmL_tryTest 1 6 D cy ad ba O S [.ref (ad 360), .int x1, .int x2, .int x3] res :=
  te_ofh (hh := [(0, 7, 8, 30), (0, 7, 13, 13)]) (by decide) rfl (Nat.le_of_ble_eq_true rfl) (fun p e s m below meth c ls X htab hR hS hl => bL_tryTest_0 (S := S) (x1 := x1) (x2 := x2) (x3 := x3) X htab hl0 _ _ _ hR hS hl hf)
abbrev rmL_tryPair : Room := { frames := 9, cells := 1, slots := 6, locals := 155 }
theorem kdL_tryPair : yL_tryPair.cls = RL ∧ yL_tryPair.cls ≠ "java/lang/invoke/MethodHandle" ∧ yL_tryPair.cls ≠ "java/lang/invoke/VarHandle" ∧ (parseMethodDescriptor yL_tryPair.desc).map (fun d => d.parameters.length) = some 3 := by decide +kernel
theorem wL_tryPair_32 : Cond.constant RL 32 (-99001) ∈ wsL_tryPair := by decide +kernel
theorem wL_tryPair_k30 : Cond.classLink RL 30 "java/lang/IndexOutOfBoundsException" ∈ wsL_tryPair := by decide +kernel
theorem wL_tryPair_15 : Cond.constant RL 15 (-99002) ∈ wsL_tryPair := by decide +kernel
theorem wL_tryPair_k13 : Cond.classLink RL 13 "java/lang/IllegalArgumentException" ∈ wsL_tryPair := by decide +kernel
theorem wL_tryPair_18 : Cond.constant RL 18 (-99003) ∈ wsL_tryPair := by decide +kernel
theorem wL_tryPair_k16 : Cond.classLink RL 16 "java/lang/IllegalStateException" ∈ wsL_tryPair := by decide +kernel
set_option maxRecDepth 100000 in
set_option maxHeartbeats 4000000 in
theorem bL_tryPair_0 {p : Program} {l : Launch} {e : Env} {s : State} {m : MethodId} {args : Array Value} {below : List Frame} {meth : Method} {c : Code} {D : va_G} {cy : Nat → ClassId} {ad : Nat → Nat} {ba : Nat → Prop} {O : Int64} {S : teS}  {x1 : Int32} {x2 : Int32} {res : (Int32 × teS)} (X : teC wsL_tryPair RL cL_tryPair 4 (some .int) D cy ba p s m args meth c) (htab : c.exceptionTable.toList = tableOf [(0, 6, 7, 30), (0, 6, 11, 13), (0, 6, 15, 16)]) (hl0 : l.stackTraces = false) (H : Heap) (locs : List Loc) (ls : Array Slot) (hR : teR D cy ad ba O S H) (hS : va_S (teA ba) s.heap H locs) (hl : lv_has ls 4 [(0, .ref (ad 360)), (1, .int x1), (2, .int x2)]) (hf : fL_tryPair x1 x2 S = some res) : W p l e (headSpec wsL_tryPair rmL_tryPair).room s m args below meth c H locs 0 0 (vx_MQ below (va_Qi (fun a (u : teS) => a = res.1 ∧ u = res.2) (fun u t => teR D cy ad ba O u t.heap) (teA ba)) (vx_X (fun _ : Unit => False) (fun _ _ _ => True) (teA ba)) args s 1 6 (teA ba)) (F0 m 0 ls []) := by
  have hx := X.1
  have hb := X.2.1
  have hown := X.2.2.2.2.1
  unfold fL_tryPair at hf
  refine lv_aload_n hx hb dL_tryPair_0 rfl (lv_at hl 0 rfl) ?_
  refine lv_iload_n hx hb dL_tryPair_1 rfl (lv_at hl 1 rfl) ?_
  refine lv_iload_n hx hb dL_tryPair_2 rfl (lv_at hl 2 rfl) ?_
  rcases bxw_some hf with ⟨e_1, hq_2, hf⟩ | ⟨r_3, S1, hq_2, hf⟩
  · by_cases c_4 : e_1 = 3
    · subst c_4
      replace hf := ite_t rfl hf
      refine kVql (id := 360) (As := [.int x1, .int x2]) (rest := []) X hR hS (zcX5_pair l D cy ad ba O S x1 x2 hl0 _ hq_2) (cwV 2 X.2.2.2.2.2.1 gL_tryPair_X5_pair rfl rfl rfl kdX5_pair ⟨(Nat.le_of_ble_eq_true rfl), (Nat.le_of_ble_eq_true rfl)⟩) (by decide) rfl rfl rfl rfl hl.1 (Nat.le_of_ble_eq_true rfl) ⟨(Nat.le_of_ble_eq_true rfl), (Nat.le_of_ble_eq_true rfl)⟩ dL_tryPair_3 (fun ce q9 H locs hR hS h3 h4 h5 => ?_)
      refine te_catch (c0 := 3) X htab [] [(0, 6, 11, 13), (0, 6, 15, 16)] (0, 6, 7, 30) rfl (by decide) (by decide) (fun z hz => nomatch hz) (by decide) (by decide) wL_tryPair_k30 h3 h4 h5 ?_
      refine lv_astore_n (lv' := [(3, .ref q9), (0, .ref (ad 360)), (1, .int x1), (2, .int x2)]) hx hb dL_tryPair_7 rfl hl (by decide) rfl (fun ls hl => ?_)
      refine lv_ldc (v := (-99001 : Int32)) hx hb hown (X.2.2.2.2.2.1 _ wL_tryPair_32) dL_tryPair_8 ?_
      exact eTx X hR hS (Option.some.inj hf) (Nat.le_of_ble_eq_true rfl) (Nat.le_of_ble_eq_true rfl) dL_tryPair_10
    replace hf := ite_f c_4 hf
    by_cases c_5 : e_1 = 1
    · subst c_5
      replace hf := ite_t rfl hf
      refine kVql (id := 360) (As := [.int x1, .int x2]) (rest := []) X hR hS (zcX5_pair l D cy ad ba O S x1 x2 hl0 _ hq_2) (cwV 2 X.2.2.2.2.2.1 gL_tryPair_X5_pair rfl rfl rfl kdX5_pair ⟨(Nat.le_of_ble_eq_true rfl), (Nat.le_of_ble_eq_true rfl)⟩) (by decide) rfl rfl rfl rfl hl.1 (Nat.le_of_ble_eq_true rfl) ⟨(Nat.le_of_ble_eq_true rfl), (Nat.le_of_ble_eq_true rfl)⟩ dL_tryPair_3 (fun ce q9 H locs hR hS h3 h4 h5 => ?_)
      refine te_catch (c0 := 1) X htab [(0, 6, 7, 30)] [(0, 6, 15, 16)] (0, 6, 11, 13) rfl (by decide) (by decide) (List.forall_mem_cons.mpr ⟨⟨by decide, 3, by decide, by decide, by decide, wL_tryPair_k30⟩, fun z hz => nomatch hz⟩) (by decide) (by decide) wL_tryPair_k13 h3 h4 h5 ?_
      refine lv_astore_n (lv' := [(3, .ref q9), (0, .ref (ad 360)), (1, .int x1), (2, .int x2)]) hx hb dL_tryPair_11 rfl hl (by decide) rfl (fun ls hl => ?_)
      refine lv_ldc (v := (-99002 : Int32)) hx hb hown (X.2.2.2.2.2.1 _ wL_tryPair_15) dL_tryPair_12 ?_
      exact eTx X hR hS (Option.some.inj hf) (Nat.le_of_ble_eq_true rfl) (Nat.le_of_ble_eq_true rfl) dL_tryPair_14
    replace hf := ite_f c_5 hf
    by_cases c_6 : e_1 = 2
    · subst c_6
      replace hf := ite_t rfl hf
      refine kVql (id := 360) (As := [.int x1, .int x2]) (rest := []) X hR hS (zcX5_pair l D cy ad ba O S x1 x2 hl0 _ hq_2) (cwV 2 X.2.2.2.2.2.1 gL_tryPair_X5_pair rfl rfl rfl kdX5_pair ⟨(Nat.le_of_ble_eq_true rfl), (Nat.le_of_ble_eq_true rfl)⟩) (by decide) rfl rfl rfl rfl hl.1 (Nat.le_of_ble_eq_true rfl) ⟨(Nat.le_of_ble_eq_true rfl), (Nat.le_of_ble_eq_true rfl)⟩ dL_tryPair_3 (fun ce q9 H locs hR hS h3 h4 h5 => ?_)
      refine te_catch (c0 := 2) X htab [(0, 6, 7, 30), (0, 6, 11, 13)] [] (0, 6, 15, 16) rfl (by decide) (by decide) (List.forall_mem_cons.mpr ⟨⟨by decide, 3, by decide, by decide, by decide, wL_tryPair_k30⟩, List.forall_mem_cons.mpr ⟨⟨by decide, 1, by decide, by decide, by decide, wL_tryPair_k13⟩, fun z hz => nomatch hz⟩⟩) (by decide) (by decide) wL_tryPair_k16 h3 h4 h5 ?_
      refine lv_astore_n (lv' := [(3, .ref q9), (0, .ref (ad 360)), (1, .int x1), (2, .int x2)]) hx hb dL_tryPair_15 rfl hl (by decide) rfl (fun ls hl => ?_)
      refine lv_ldc (v := (-99003 : Int32)) hx hb hown (X.2.2.2.2.2.1 _ wL_tryPair_18) dL_tryPair_16 ?_
      exact eTx X hR hS (Option.some.inj hf) (Nat.le_of_ble_eq_true rfl) (Nat.le_of_ble_eq_true rfl) dL_tryPair_18
    replace hf := ite_f c_6 hf
    exact nomatch hf
  · refine kVqr (id := 360) (As := [.int x1, .int x2]) (rest := []) X hR hS (zcX5_pair l D cy ad ba O S x1 x2 hl0 _ hq_2) (cwV 2 X.2.2.2.2.2.1 gL_tryPair_X5_pair rfl rfl rfl kdX5_pair ⟨(Nat.le_of_ble_eq_true rfl), (Nat.le_of_ble_eq_true rfl)⟩) (by decide) rfl rfl rfl rfl hl.1 (Nat.le_of_ble_eq_true rfl) ⟨(Nat.le_of_ble_eq_true rfl), (Nat.le_of_ble_eq_true rfl)⟩ dL_tryPair_3 (fun H locs hR hS => ?_)
    exact eTx X hR hS (Option.some.inj hf) (Nat.le_of_ble_eq_true rfl) (Nat.le_of_ble_eq_true rfl) dL_tryPair_6
theorem zcL_tryPair (l : Launch) (D : va_G) (cy : Nat → ClassId) (ad : Nat → Nat) (ba : Nat → Prop) (O : Int64) (S : teS) (x1 : Int32) (x2 : Int32) (hl0 : l.stackTraces = false) (res : (Int32 × teS)) (hf : fL_tryPair x1 x2 S = some res) : lT l yL_tryPair wsL_tryPair rmL_tryPair 1 6 D cy ad ba O S [.ref (ad 360), .int x1, .int x2] res :=
  te_ofh (hh := [(0, 6, 7, 30), (0, 6, 11, 13), (0, 6, 15, 16)]) (by decide) rfl (Nat.le_of_ble_eq_true rfl) (fun p e s m below meth c ls X htab hR hS hl => bL_tryPair_0 (S := S) (x1 := x1) (x2 := x2) X htab hl0 _ _ _ hR hS hl hf)
abbrev rmL_tryPart : Room := { frames := 8, cells := 1, slots := 6, locals := 146 }
theorem kdL_tryPart : yL_tryPart.cls = RL ∧ yL_tryPart.cls ≠ "java/lang/invoke/MethodHandle" ∧ yL_tryPart.cls ≠ "java/lang/invoke/VarHandle" ∧ (parseMethodDescriptor yL_tryPart.desc).map (fun d => d.parameters.length) = some 2 := by decide +kernel
theorem wL_tryPart_32 : Cond.constant RL 32 (-99001) ∈ wsL_tryPart := by decide +kernel
theorem wL_tryPart_k30 : Cond.classLink RL 30 "java/lang/IndexOutOfBoundsException" ∈ wsL_tryPart := by decide +kernel
theorem wL_tryPart_18 : Cond.constant RL 18 (-99003) ∈ wsL_tryPart := by decide +kernel
theorem wL_tryPart_k16 : Cond.classLink RL 16 "java/lang/IllegalStateException" ∈ wsL_tryPart := by decide +kernel
set_option maxRecDepth 100000 in
set_option maxHeartbeats 4000000 in
theorem bL_tryPart_0 {p : Program} {l : Launch} {e : Env} {s : State} {m : MethodId} {args : Array Value} {below : List Frame} {meth : Method} {c : Code} {D : va_G} {cy : Nat → ClassId} {ad : Nat → Nat} {ba : Nat → Prop} {O : Int64} {S : teS}  {x1 : Int32} {res : (Int32 × teS)} (X : teC wsL_tryPart RL cL_tryPart 3 (some .int) D cy ba p s m args meth c) (htab : c.exceptionTable.toList = tableOf [(0, 5, 6, 30), (0, 5, 10, 16)]) (hl0 : l.stackTraces = false) (H : Heap) (locs : List Loc) (ls : Array Slot) (hR : teR D cy ad ba O S H) (hS : va_S (teA ba) s.heap H locs) (hl : lv_has ls 3 [(0, .ref (ad 360)), (1, .int x1)]) (hf : fL_tryPart x1 S = some res) : W p l e (headSpec wsL_tryPart rmL_tryPart).room s m args below meth c H locs 0 0 (vx_MQ below (va_Qi (fun a (u : teS) => a = res.1 ∧ u = res.2) (fun u t => teR D cy ad ba O u t.heap) (teA ba)) (vx_X (fun _ : Unit => False) (fun _ _ _ => True) (teA ba)) args s 1 6 (teA ba)) (F0 m 0 ls []) := by
  have hx := X.1
  have hb := X.2.1
  have hown := X.2.2.2.2.1
  unfold fL_tryPart at hf
  refine lv_aload_n hx hb dL_tryPart_0 rfl (lv_at hl 0 rfl) ?_
  refine lv_iload_n hx hb dL_tryPart_1 rfl (lv_at hl 1 rfl) ?_
  rcases bxw_some hf with ⟨e_1, hq_2, hf⟩ | ⟨r_3, S1, hq_2, hf⟩
  · by_cases c_4 : e_1 = 3
    · subst c_4
      replace hf := ite_t rfl hf
      refine kVql (id := 360) (As := [.int x1]) (rest := []) X hR hS (zcX5_part l D cy ad ba O S x1 hl0 _ hq_2) (cwV 1 X.2.2.2.2.2.1 gL_tryPart_X5_part rfl rfl rfl kdX5_part ⟨(Nat.le_of_ble_eq_true rfl), (Nat.le_of_ble_eq_true rfl)⟩) (by decide) rfl rfl rfl rfl hl.1 (Nat.le_of_ble_eq_true rfl) ⟨(Nat.le_of_ble_eq_true rfl), (Nat.le_of_ble_eq_true rfl)⟩ dL_tryPart_2 (fun ce q9 H locs hR hS h3 h4 h5 => ?_)
      refine te_catch (c0 := 3) X htab [] [(0, 5, 10, 16)] (0, 5, 6, 30) rfl (by decide) (by decide) (fun z hz => nomatch hz) (by decide) (by decide) wL_tryPart_k30 h3 h4 h5 ?_
      refine lv_astore_n (lv' := [(2, .ref q9), (0, .ref (ad 360)), (1, .int x1)]) hx hb dL_tryPart_6 rfl hl (by decide) rfl (fun ls hl => ?_)
      refine lv_ldc (v := (-99001 : Int32)) hx hb hown (X.2.2.2.2.2.1 _ wL_tryPart_32) dL_tryPart_7 ?_
      exact eTx X hR hS (Option.some.inj hf) (Nat.le_of_ble_eq_true rfl) (Nat.le_of_ble_eq_true rfl) dL_tryPart_9
    replace hf := ite_f c_4 hf
    by_cases c_5 : e_1 = 2
    · subst c_5
      replace hf := ite_t rfl hf
      refine kVql (id := 360) (As := [.int x1]) (rest := []) X hR hS (zcX5_part l D cy ad ba O S x1 hl0 _ hq_2) (cwV 1 X.2.2.2.2.2.1 gL_tryPart_X5_part rfl rfl rfl kdX5_part ⟨(Nat.le_of_ble_eq_true rfl), (Nat.le_of_ble_eq_true rfl)⟩) (by decide) rfl rfl rfl rfl hl.1 (Nat.le_of_ble_eq_true rfl) ⟨(Nat.le_of_ble_eq_true rfl), (Nat.le_of_ble_eq_true rfl)⟩ dL_tryPart_2 (fun ce q9 H locs hR hS h3 h4 h5 => ?_)
      refine te_catch (c0 := 2) X htab [(0, 5, 6, 30)] [] (0, 5, 10, 16) rfl (by decide) (by decide) (List.forall_mem_cons.mpr ⟨⟨by decide, 3, by decide, by decide, by decide, wL_tryPart_k30⟩, fun z hz => nomatch hz⟩) (by decide) (by decide) wL_tryPart_k16 h3 h4 h5 ?_
      refine lv_astore_n (lv' := [(2, .ref q9), (0, .ref (ad 360)), (1, .int x1)]) hx hb dL_tryPart_10 rfl hl (by decide) rfl (fun ls hl => ?_)
      refine lv_ldc (v := (-99003 : Int32)) hx hb hown (X.2.2.2.2.2.1 _ wL_tryPart_18) dL_tryPart_11 ?_
      exact eTx X hR hS (Option.some.inj hf) (Nat.le_of_ble_eq_true rfl) (Nat.le_of_ble_eq_true rfl) dL_tryPart_13
    replace hf := ite_f c_5 hf
    exact nomatch hf
  · refine kVqr (id := 360) (As := [.int x1]) (rest := []) X hR hS (zcX5_part l D cy ad ba O S x1 hl0 _ hq_2) (cwV 1 X.2.2.2.2.2.1 gL_tryPart_X5_part rfl rfl rfl kdX5_part ⟨(Nat.le_of_ble_eq_true rfl), (Nat.le_of_ble_eq_true rfl)⟩) (by decide) rfl rfl rfl rfl hl.1 (Nat.le_of_ble_eq_true rfl) ⟨(Nat.le_of_ble_eq_true rfl), (Nat.le_of_ble_eq_true rfl)⟩ dL_tryPart_2 (fun H locs hR hS => ?_)
    exact eTx X hR hS (Option.some.inj hf) (Nat.le_of_ble_eq_true rfl) (Nat.le_of_ble_eq_true rfl) dL_tryPart_5
theorem zcL_tryPart (l : Launch) (D : va_G) (cy : Nat → ClassId) (ad : Nat → Nat) (ba : Nat → Prop) (O : Int64) (S : teS) (x1 : Int32) (hl0 : l.stackTraces = false) (res : (Int32 × teS)) (hf : fL_tryPart x1 S = some res) : lT l yL_tryPart wsL_tryPart rmL_tryPart 1 6 D cy ad ba O S [.ref (ad 360), .int x1] res :=
  te_ofh (hh := [(0, 5, 6, 30), (0, 5, 10, 16)]) (by decide) rfl (Nat.le_of_ble_eq_true rfl) (fun p e s m below meth c ls X htab hR hS hl => bL_tryPart_0 (S := S) (x1 := x1) X htab hl0 _ _ _ hR hS hl hf)
abbrev rmL_trySettle : Room := { frames := 8, cells := 1, slots := 6, locals := 156 }
theorem kdL_trySettle : yL_trySettle.cls = RL ∧ yL_trySettle.cls ≠ "java/lang/invoke/MethodHandle" ∧ yL_trySettle.cls ≠ "java/lang/invoke/VarHandle" ∧ (parseMethodDescriptor yL_trySettle.desc).map (fun d => d.parameters.length) = some 2 := by decide +kernel
theorem wL_trySettle_15 : Cond.constant RL 15 (-99002) ∈ wsL_trySettle := by decide +kernel
theorem wL_trySettle_k13 : Cond.classLink RL 13 "java/lang/IllegalArgumentException" ∈ wsL_trySettle := by decide +kernel
set_option maxRecDepth 100000 in
set_option maxHeartbeats 4000000 in
theorem bL_trySettle_0 {p : Program} {l : Launch} {e : Env} {s : State} {m : MethodId} {args : Array Value} {below : List Frame} {meth : Method} {c : Code} {D : va_G} {cy : Nat → ClassId} {ad : Nat → Nat} {ba : Nat → Prop} {O : Int64} {S : teS}  {x1 : Int32} {res : (Int32 × teS)} (X : teC wsL_trySettle RL cL_trySettle 3 (some .int) D cy ba p s m args meth c) (htab : c.exceptionTable.toList = tableOf [(0, 5, 6, 13)]) (hl0 : l.stackTraces = false) (H : Heap) (locs : List Loc) (ls : Array Slot) (hR : teR D cy ad ba O S H) (hS : va_S (teA ba) s.heap H locs) (hl : lv_has ls 3 [(0, .ref (ad 360)), (1, .int x1)]) (hf : fL_trySettle x1 S = some res) : W p l e (headSpec wsL_trySettle rmL_trySettle).room s m args below meth c H locs 0 0 (vx_MQ below (va_Qi (fun a (u : teS) => a = res.1 ∧ u = res.2) (fun u t => teR D cy ad ba O u t.heap) (teA ba)) (vx_X (fun _ : Unit => False) (fun _ _ _ => True) (teA ba)) args s 1 6 (teA ba)) (F0 m 0 ls []) := by
  have hx := X.1
  have hb := X.2.1
  have hown := X.2.2.2.2.1
  unfold fL_trySettle at hf
  refine lv_aload_n hx hb dL_trySettle_0 rfl (lv_at hl 0 rfl) ?_
  refine lv_iload_n hx hb dL_trySettle_1 rfl (lv_at hl 1 rfl) ?_
  rcases bxw_some hf with ⟨e_1, hq_2, hf⟩ | ⟨r_3, S1, hq_2, hf⟩
  · by_cases c_4 : e_1 = 1
    · subst c_4
      replace hf := ite_t rfl hf
      refine kVql (id := 360) (As := [.int x1]) (rest := []) X hR hS (zcX5_settle l D cy ad ba O S x1 hl0 _ hq_2) (cwV 1 X.2.2.2.2.2.1 gL_trySettle_X5_settle rfl rfl rfl kdX5_settle ⟨(Nat.le_of_ble_eq_true rfl), (Nat.le_of_ble_eq_true rfl)⟩) (by decide) rfl rfl rfl rfl hl.1 (Nat.le_of_ble_eq_true rfl) ⟨(Nat.le_of_ble_eq_true rfl), (Nat.le_of_ble_eq_true rfl)⟩ dL_trySettle_2 (fun ce q9 H locs hR hS h3 h4 h5 => ?_)
      refine te_catch (c0 := 1) X htab [] [] (0, 5, 6, 13) rfl (by decide) (by decide) (fun z hz => nomatch hz) (by decide) (by decide) wL_trySettle_k13 h3 h4 h5 ?_
      refine lv_astore_n (lv' := [(2, .ref q9), (0, .ref (ad 360)), (1, .int x1)]) hx hb dL_trySettle_6 rfl hl (by decide) rfl (fun ls hl => ?_)
      refine lv_ldc (v := (-99002 : Int32)) hx hb hown (X.2.2.2.2.2.1 _ wL_trySettle_15) dL_trySettle_7 ?_
      exact eTx X hR hS (Option.some.inj hf) (Nat.le_of_ble_eq_true rfl) (Nat.le_of_ble_eq_true rfl) dL_trySettle_9
    replace hf := ite_f c_4 hf
    exact nomatch hf
  · refine kVqr (id := 360) (As := [.int x1]) (rest := []) X hR hS (zcX5_settle l D cy ad ba O S x1 hl0 _ hq_2) (cwV 1 X.2.2.2.2.2.1 gL_trySettle_X5_settle rfl rfl rfl kdX5_settle ⟨(Nat.le_of_ble_eq_true rfl), (Nat.le_of_ble_eq_true rfl)⟩) (by decide) rfl rfl rfl rfl hl.1 (Nat.le_of_ble_eq_true rfl) ⟨(Nat.le_of_ble_eq_true rfl), (Nat.le_of_ble_eq_true rfl)⟩ dL_trySettle_2 (fun H locs hR hS => ?_)
    exact eTx X hR hS (Option.some.inj hf) (Nat.le_of_ble_eq_true rfl) (Nat.le_of_ble_eq_true rfl) dL_trySettle_5
theorem zcL_trySettle (l : Launch) (D : va_G) (cy : Nat → ClassId) (ad : Nat → Nat) (ba : Nat → Prop) (O : Int64) (S : teS) (x1 : Int32) (hl0 : l.stackTraces = false) (res : (Int32 × teS)) (hf : fL_trySettle x1 S = some res) : lT l yL_trySettle wsL_trySettle rmL_trySettle 1 6 D cy ad ba O S [.ref (ad 360), .int x1] res :=
  te_ofh (hh := [(0, 5, 6, 13)]) (by decide) rfl (Nat.le_of_ble_eq_true rfl) (fun p e s m below meth c ls X htab hR hS hl => bL_trySettle_0 (S := S) (x1 := x1) X htab hl0 _ _ _ hR hS hl hf)
abbrev rmL_tryWeek : Room := { frames := 8, cells := 1, slots := 6, locals := 145 }
theorem kdL_tryWeek : yL_tryWeek.cls = RL ∧ yL_tryWeek.cls ≠ "java/lang/invoke/MethodHandle" ∧ yL_tryWeek.cls ≠ "java/lang/invoke/VarHandle" ∧ (parseMethodDescriptor yL_tryWeek.desc).map (fun d => d.parameters.length) = some 2 := by decide +kernel
theorem wL_tryWeek_15 : Cond.constant RL 15 (-99002) ∈ wsL_tryWeek := by decide +kernel
theorem wL_tryWeek_k13 : Cond.classLink RL 13 "java/lang/IllegalArgumentException" ∈ wsL_tryWeek := by decide +kernel
set_option maxRecDepth 100000 in
set_option maxHeartbeats 4000000 in
theorem bL_tryWeek_0 {p : Program} {l : Launch} {e : Env} {s : State} {m : MethodId} {args : Array Value} {below : List Frame} {meth : Method} {c : Code} {D : va_G} {cy : Nat → ClassId} {ad : Nat → Nat} {ba : Nat → Prop} {O : Int64} {S : teS}  {x1 : Int32} {res : (Int32 × teS)} (X : teC wsL_tryWeek RL cL_tryWeek 3 (some .int) D cy ba p s m args meth c) (htab : c.exceptionTable.toList = tableOf [(0, 5, 6, 13)]) (hl0 : l.stackTraces = false) (H : Heap) (locs : List Loc) (ls : Array Slot) (hR : teR D cy ad ba O S H) (hS : va_S (teA ba) s.heap H locs) (hl : lv_has ls 3 [(0, .ref (ad 360)), (1, .int x1)]) (hf : fL_tryWeek x1 S = some res) : W p l e (headSpec wsL_tryWeek rmL_tryWeek).room s m args below meth c H locs 0 0 (vx_MQ below (va_Qi (fun a (u : teS) => a = res.1 ∧ u = res.2) (fun u t => teR D cy ad ba O u t.heap) (teA ba)) (vx_X (fun _ : Unit => False) (fun _ _ _ => True) (teA ba)) args s 1 6 (teA ba)) (F0 m 0 ls []) := by
  have hx := X.1
  have hb := X.2.1
  have hown := X.2.2.2.2.1
  unfold fL_tryWeek at hf
  refine lv_aload_n hx hb dL_tryWeek_0 rfl (lv_at hl 0 rfl) ?_
  refine lv_iload_n hx hb dL_tryWeek_1 rfl (lv_at hl 1 rfl) ?_
  rcases bxw_some hf with ⟨e_1, hq_2, hf⟩ | ⟨r_3, S1, hq_2, hf⟩
  · by_cases c_4 : e_1 = 1
    · subst c_4
      replace hf := ite_t rfl hf
      refine kVql (id := 360) (As := [.int x1]) (rest := []) X hR hS (zcX5_week l D cy ad ba O S x1 hl0 _ hq_2) (cwV 1 X.2.2.2.2.2.1 gL_tryWeek_X5_week rfl rfl rfl kdX5_week ⟨(Nat.le_of_ble_eq_true rfl), (Nat.le_of_ble_eq_true rfl)⟩) (by decide) rfl rfl rfl rfl hl.1 (Nat.le_of_ble_eq_true rfl) ⟨(Nat.le_of_ble_eq_true rfl), (Nat.le_of_ble_eq_true rfl)⟩ dL_tryWeek_2 (fun ce q9 H locs hR hS h3 h4 h5 => ?_)
      refine te_catch (c0 := 1) X htab [] [] (0, 5, 6, 13) rfl (by decide) (by decide) (fun z hz => nomatch hz) (by decide) (by decide) wL_tryWeek_k13 h3 h4 h5 ?_
      refine lv_astore_n (lv' := [(2, .ref q9), (0, .ref (ad 360)), (1, .int x1)]) hx hb dL_tryWeek_6 rfl hl (by decide) rfl (fun ls hl => ?_)
      refine lv_ldc (v := (-99002 : Int32)) hx hb hown (X.2.2.2.2.2.1 _ wL_tryWeek_15) dL_tryWeek_7 ?_
      exact eTx X hR hS (Option.some.inj hf) (Nat.le_of_ble_eq_true rfl) (Nat.le_of_ble_eq_true rfl) dL_tryWeek_9
    replace hf := ite_f c_4 hf
    exact nomatch hf
  · refine kVqr (id := 360) (As := [.int x1]) (rest := []) X hR hS (zcX5_week l D cy ad ba O S x1 hl0 _ hq_2) (cwV 1 X.2.2.2.2.2.1 gL_tryWeek_X5_week rfl rfl rfl kdX5_week ⟨(Nat.le_of_ble_eq_true rfl), (Nat.le_of_ble_eq_true rfl)⟩) (by decide) rfl rfl rfl rfl hl.1 (Nat.le_of_ble_eq_true rfl) ⟨(Nat.le_of_ble_eq_true rfl), (Nat.le_of_ble_eq_true rfl)⟩ dL_tryWeek_2 (fun H locs hR hS => ?_)
    exact eTx X hR hS (Option.some.inj hf) (Nat.le_of_ble_eq_true rfl) (Nat.le_of_ble_eq_true rfl) dL_tryWeek_5
theorem zcL_tryWeek (l : Launch) (D : va_G) (cy : Nat → ClassId) (ad : Nat → Nat) (ba : Nat → Prop) (O : Int64) (S : teS) (x1 : Int32) (hl0 : l.stackTraces = false) (res : (Int32 × teS)) (hf : fL_tryWeek x1 S = some res) : lT l yL_tryWeek wsL_tryWeek rmL_tryWeek 1 6 D cy ad ba O S [.ref (ad 360), .int x1] res :=
  te_ofh (hh := [(0, 5, 6, 13)]) (by decide) rfl (Nat.le_of_ble_eq_true rfl) (fun p e s m below meth c ls X htab hR hS hl => bL_tryWeek_0 (S := S) (x1 := x1) X htab hl0 _ _ _ hR hS hl hf)
abbrev rmL_tryUndo : Room := { frames := 7, cells := 1, slots := 6, locals := 144 }
theorem kdL_tryUndo : yL_tryUndo.cls = RL ∧ yL_tryUndo.cls ≠ "java/lang/invoke/MethodHandle" ∧ yL_tryUndo.cls ≠ "java/lang/invoke/VarHandle" ∧ (parseMethodDescriptor yL_tryUndo.desc).map (fun d => d.parameters.length) = some 1 := by decide +kernel
theorem wL_tryUndo_18 : Cond.constant RL 18 (-99003) ∈ wsL_tryUndo := by decide +kernel
theorem wL_tryUndo_k16 : Cond.classLink RL 16 "java/lang/IllegalStateException" ∈ wsL_tryUndo := by decide +kernel
set_option maxRecDepth 100000 in
set_option maxHeartbeats 4000000 in
theorem bL_tryUndo_0 {p : Program} {l : Launch} {e : Env} {s : State} {m : MethodId} {args : Array Value} {below : List Frame} {meth : Method} {c : Code} {D : va_G} {cy : Nat → ClassId} {ad : Nat → Nat} {ba : Nat → Prop} {O : Int64} {S : teS}  {res : (Int32 × teS)} (X : teC wsL_tryUndo RL cL_tryUndo 2 (some .int) D cy ba p s m args meth c) (htab : c.exceptionTable.toList = tableOf [(0, 4, 5, 16)]) (hl0 : l.stackTraces = false) (H : Heap) (locs : List Loc) (ls : Array Slot) (hR : teR D cy ad ba O S H) (hS : va_S (teA ba) s.heap H locs) (hl : lv_has ls 2 [(0, .ref (ad 360))]) (hf : fL_tryUndo S = some res) : W p l e (headSpec wsL_tryUndo rmL_tryUndo).room s m args below meth c H locs 0 0 (vx_MQ below (va_Qi (fun a (u : teS) => a = res.1 ∧ u = res.2) (fun u t => teR D cy ad ba O u t.heap) (teA ba)) (vx_X (fun _ : Unit => False) (fun _ _ _ => True) (teA ba)) args s 1 6 (teA ba)) (F0 m 0 ls []) := by
  have hx := X.1
  have hb := X.2.1
  have hown := X.2.2.2.2.1
  unfold fL_tryUndo at hf
  refine lv_aload_n hx hb dL_tryUndo_0 rfl (lv_at hl 0 rfl) ?_
  rcases bxw_some hf with ⟨e_1, hq_2, hf⟩ | ⟨r_3, S1, hq_2, hf⟩
  · by_cases c_4 : e_1 = 2
    · subst c_4
      replace hf := ite_t rfl hf
      refine kVql (id := 360) (As := []) (rest := []) X hR hS (zcX5_undo l D cy ad ba O S hl0 _ hq_2) (cwV 0 X.2.2.2.2.2.1 gL_tryUndo_X5_undo rfl rfl rfl kdX5_undo ⟨(Nat.le_of_ble_eq_true rfl), (Nat.le_of_ble_eq_true rfl)⟩) (by decide) rfl rfl rfl rfl hl.1 (Nat.le_of_ble_eq_true rfl) ⟨(Nat.le_of_ble_eq_true rfl), (Nat.le_of_ble_eq_true rfl)⟩ dL_tryUndo_1 (fun ce q9 H locs hR hS h3 h4 h5 => ?_)
      refine te_catch (c0 := 2) X htab [] [] (0, 4, 5, 16) rfl (by decide) (by decide) (fun z hz => nomatch hz) (by decide) (by decide) wL_tryUndo_k16 h3 h4 h5 ?_
      refine lv_astore_n (lv' := [(1, .ref q9), (0, .ref (ad 360))]) hx hb dL_tryUndo_5 rfl hl (by decide) rfl (fun ls hl => ?_)
      refine lv_ldc (v := (-99003 : Int32)) hx hb hown (X.2.2.2.2.2.1 _ wL_tryUndo_18) dL_tryUndo_6 ?_
      exact eTx X hR hS (Option.some.inj hf) (Nat.le_of_ble_eq_true rfl) (Nat.le_of_ble_eq_true rfl) dL_tryUndo_8
    replace hf := ite_f c_4 hf
    exact nomatch hf
  · refine kVqr (id := 360) (As := []) (rest := []) X hR hS (zcX5_undo l D cy ad ba O S hl0 _ hq_2) (cwV 0 X.2.2.2.2.2.1 gL_tryUndo_X5_undo rfl rfl rfl kdX5_undo ⟨(Nat.le_of_ble_eq_true rfl), (Nat.le_of_ble_eq_true rfl)⟩) (by decide) rfl rfl rfl rfl hl.1 (Nat.le_of_ble_eq_true rfl) ⟨(Nat.le_of_ble_eq_true rfl), (Nat.le_of_ble_eq_true rfl)⟩ dL_tryUndo_1 (fun H locs hR hS => ?_)
    exact eTx X hR hS (Option.some.inj hf) (Nat.le_of_ble_eq_true rfl) (Nat.le_of_ble_eq_true rfl) dL_tryUndo_4
theorem zcL_tryUndo (l : Launch) (D : va_G) (cy : Nat → ClassId) (ad : Nat → Nat) (ba : Nat → Prop) (O : Int64) (S : teS) (hl0 : l.stackTraces = false) (res : (Int32 × teS)) (hf : fL_tryUndo S = some res) : lT l yL_tryUndo wsL_tryUndo rmL_tryUndo 1 6 D cy ad ba O S [.ref (ad 360)] res :=
  te_ofh (hh := [(0, 4, 5, 16)]) (by decide) rfl (Nat.le_of_ble_eq_true rfl) (fun p e s m below meth c ls X htab hR hS hl => bL_tryUndo_0 (S := S)  X htab hl0 _ _ _ hR hS hl hf)
abbrev rmL_tryBlocking : Room := { frames := 7, cells := 1, slots := 6, locals := 116 }
theorem kdL_tryBlocking : yL_tryBlocking.cls = RL ∧ yL_tryBlocking.cls ≠ "java/lang/invoke/MethodHandle" ∧ yL_tryBlocking.cls ≠ "java/lang/invoke/VarHandle" ∧ (parseMethodDescriptor yL_tryBlocking.desc).map (fun d => d.parameters.length) = some 3 := by decide +kernel
theorem wL_tryBlocking_15 : Cond.constant RL 15 (-99002) ∈ wsL_tryBlocking := by decide +kernel
theorem wL_tryBlocking_k13 : Cond.classLink RL 13 "java/lang/IllegalArgumentException" ∈ wsL_tryBlocking := by decide +kernel
set_option maxRecDepth 100000 in
set_option maxHeartbeats 4000000 in
theorem bL_tryBlocking_0 {p : Program} {l : Launch} {e : Env} {s : State} {m : MethodId} {args : Array Value} {below : List Frame} {meth : Method} {c : Code} {D : va_G} {cy : Nat → ClassId} {ad : Nat → Nat} {ba : Nat → Prop} {O : Int64} {S : teS}  {x1 : Int32} {x2 : Int32} {res : (Int32 × teS)} (X : teC wsL_tryBlocking RL cL_tryBlocking 4 (some .int) D cy ba p s m args meth c) (htab : c.exceptionTable.toList = tableOf [(0, 6, 7, 13)]) (hl0 : l.stackTraces = false) (H : Heap) (locs : List Loc) (ls : Array Slot) (hR : teR D cy ad ba O S H) (hS : va_S (teA ba) s.heap H locs) (hl : lv_has ls 4 [(0, .ref (ad 360)), (1, .int x1), (2, .int x2)]) (hf : fL_tryBlocking x1 x2 S = some res) : W p l e (headSpec wsL_tryBlocking rmL_tryBlocking).room s m args below meth c H locs 0 0 (vx_MQ below (va_Qi (fun a (u : teS) => a = res.1 ∧ u = res.2) (fun u t => teR D cy ad ba O u t.heap) (teA ba)) (vx_X (fun _ : Unit => False) (fun _ _ _ => True) (teA ba)) args s 1 6 (teA ba)) (F0 m 0 ls []) := by
  have hx := X.1
  have hb := X.2.1
  have hown := X.2.2.2.2.1
  unfold fL_tryBlocking at hf
  refine lv_aload_n hx hb dL_tryBlocking_0 rfl (lv_at hl 0 rfl) ?_
  refine lv_iload_n hx hb dL_tryBlocking_1 rfl (lv_at hl 1 rfl) ?_
  refine lv_iload_n hx hb dL_tryBlocking_2 rfl (lv_at hl 2 rfl) ?_
  rcases bxw_some hf with ⟨e_1, hq_2, hf⟩ | ⟨r_3, S1, hq_2, hf⟩
  · by_cases c_4 : e_1 = 1
    · subst c_4
      replace hf := ite_t rfl hf
      refine kVql (id := 360) (As := [.int x1, .int x2]) (rest := []) X hR hS (zcX5_blocking l D cy ad ba O S x1 x2 hl0 _ hq_2) (cwV 2 X.2.2.2.2.2.1 gL_tryBlocking_X5_blocking rfl rfl rfl kdX5_blocking ⟨(Nat.le_of_ble_eq_true rfl), (Nat.le_of_ble_eq_true rfl)⟩) (by decide) rfl rfl rfl rfl hl.1 (Nat.le_of_ble_eq_true rfl) ⟨(Nat.le_of_ble_eq_true rfl), (Nat.le_of_ble_eq_true rfl)⟩ dL_tryBlocking_3 (fun ce q9 H locs hR hS h3 h4 h5 => ?_)
      refine te_catch (c0 := 1) X htab [] [] (0, 6, 7, 13) rfl (by decide) (by decide) (fun z hz => nomatch hz) (by decide) (by decide) wL_tryBlocking_k13 h3 h4 h5 ?_
      refine lv_astore_n (lv' := [(3, .ref q9), (0, .ref (ad 360)), (1, .int x1), (2, .int x2)]) hx hb dL_tryBlocking_7 rfl hl (by decide) rfl (fun ls hl => ?_)
      refine lv_ldc (v := (-99002 : Int32)) hx hb hown (X.2.2.2.2.2.1 _ wL_tryBlocking_15) dL_tryBlocking_8 ?_
      exact eTx X hR hS (Option.some.inj hf) (Nat.le_of_ble_eq_true rfl) (Nat.le_of_ble_eq_true rfl) dL_tryBlocking_10
    replace hf := ite_f c_4 hf
    exact nomatch hf
  · refine kVqr (id := 360) (As := [.int x1, .int x2]) (rest := []) X hR hS (zcX5_blocking l D cy ad ba O S x1 x2 hl0 _ hq_2) (cwV 2 X.2.2.2.2.2.1 gL_tryBlocking_X5_blocking rfl rfl rfl kdX5_blocking ⟨(Nat.le_of_ble_eq_true rfl), (Nat.le_of_ble_eq_true rfl)⟩) (by decide) rfl rfl rfl rfl hl.1 (Nat.le_of_ble_eq_true rfl) ⟨(Nat.le_of_ble_eq_true rfl), (Nat.le_of_ble_eq_true rfl)⟩ dL_tryBlocking_3 (fun H locs hR hS => ?_)
    exact eTx X hR hS (Option.some.inj hf) (Nat.le_of_ble_eq_true rfl) (Nat.le_of_ble_eq_true rfl) dL_tryBlocking_6
theorem zcL_tryBlocking (l : Launch) (D : va_G) (cy : Nat → ClassId) (ad : Nat → Nat) (ba : Nat → Prop) (O : Int64) (S : teS) (x1 : Int32) (x2 : Int32) (hl0 : l.stackTraces = false) (res : (Int32 × teS)) (hf : fL_tryBlocking x1 x2 S = some res) : lT l yL_tryBlocking wsL_tryBlocking rmL_tryBlocking 1 6 D cy ad ba O S [.ref (ad 360), .int x1, .int x2] res :=
  te_ofh (hh := [(0, 6, 7, 13)]) (by decide) rfl (Nat.le_of_ble_eq_true rfl) (fun p e s m below meth c ls X htab hR hS hl => bL_tryBlocking_0 (S := S) (x1 := x1) (x2 := x2) X htab hl0 _ _ _ hR hS hl hf)
abbrev rmL_tryBestPartner : Room := { frames := 8, cells := 1, slots := 6, locals := 137 }
theorem kdL_tryBestPartner : yL_tryBestPartner.cls = RL ∧ yL_tryBestPartner.cls ≠ "java/lang/invoke/MethodHandle" ∧ yL_tryBestPartner.cls ≠ "java/lang/invoke/VarHandle" ∧ (parseMethodDescriptor yL_tryBestPartner.desc).map (fun d => d.parameters.length) = some 3 := by decide +kernel
theorem wL_tryBestPartner_32 : Cond.constant RL 32 (-99001) ∈ wsL_tryBestPartner := by decide +kernel
theorem wL_tryBestPartner_k30 : Cond.classLink RL 30 "java/lang/IndexOutOfBoundsException" ∈ wsL_tryBestPartner := by decide +kernel
set_option maxRecDepth 100000 in
set_option maxHeartbeats 4000000 in
theorem bL_tryBestPartner_0 {p : Program} {l : Launch} {e : Env} {s : State} {m : MethodId} {args : Array Value} {below : List Frame} {meth : Method} {c : Code} {D : va_G} {cy : Nat → ClassId} {ad : Nat → Nat} {ba : Nat → Prop} {O : Int64} {S : teS}  {x1 : Int32} {x2 : Int32} {res : (Int32 × teS)} (X : teC wsL_tryBestPartner RL cL_tryBestPartner 4 (some .int) D cy ba p s m args meth c) (htab : c.exceptionTable.toList = tableOf [(0, 6, 7, 30)]) (hl0 : l.stackTraces = false) (H : Heap) (locs : List Loc) (ls : Array Slot) (hR : teR D cy ad ba O S H) (hS : va_S (teA ba) s.heap H locs) (hl : lv_has ls 4 [(0, .ref (ad 360)), (1, .int x1), (2, .int x2)]) (hf : fL_tryBestPartner x1 x2 S = some res) : W p l e (headSpec wsL_tryBestPartner rmL_tryBestPartner).room s m args below meth c H locs 0 0 (vx_MQ below (va_Qi (fun a (u : teS) => a = res.1 ∧ u = res.2) (fun u t => teR D cy ad ba O u t.heap) (teA ba)) (vx_X (fun _ : Unit => False) (fun _ _ _ => True) (teA ba)) args s 1 6 (teA ba)) (F0 m 0 ls []) := by
  have hx := X.1
  have hb := X.2.1
  have hown := X.2.2.2.2.1
  unfold fL_tryBestPartner at hf
  refine lv_aload_n hx hb dL_tryBestPartner_0 rfl (lv_at hl 0 rfl) ?_
  refine lv_iload_n hx hb dL_tryBestPartner_1 rfl (lv_at hl 1 rfl) ?_
  refine lv_iload_n hx hb dL_tryBestPartner_2 rfl (lv_at hl 2 rfl) ?_
  rcases bxw_some hf with ⟨e_1, hq_2, hf⟩ | ⟨r_3, S1, hq_2, hf⟩
  · by_cases c_4 : e_1 = 3
    · subst c_4
      replace hf := ite_t rfl hf
      refine kVql (id := 360) (As := [.int x1, .int x2]) (rest := []) X hR hS (zcX5_bestPartner l D cy ad ba O S x1 x2 hl0 _ hq_2) (cwV 2 X.2.2.2.2.2.1 gL_tryBestPartner_X5_bestPartner rfl rfl rfl kdX5_bestPartner ⟨(Nat.le_of_ble_eq_true rfl), (Nat.le_of_ble_eq_true rfl)⟩) (by decide) rfl rfl rfl rfl hl.1 (Nat.le_of_ble_eq_true rfl) ⟨(Nat.le_of_ble_eq_true rfl), (Nat.le_of_ble_eq_true rfl)⟩ dL_tryBestPartner_3 (fun ce q9 H locs hR hS h3 h4 h5 => ?_)
      refine te_catch (c0 := 3) X htab [] [] (0, 6, 7, 30) rfl (by decide) (by decide) (fun z hz => nomatch hz) (by decide) (by decide) wL_tryBestPartner_k30 h3 h4 h5 ?_
      refine lv_astore_n (lv' := [(3, .ref q9), (0, .ref (ad 360)), (1, .int x1), (2, .int x2)]) hx hb dL_tryBestPartner_7 rfl hl (by decide) rfl (fun ls hl => ?_)
      refine lv_ldc (v := (-99001 : Int32)) hx hb hown (X.2.2.2.2.2.1 _ wL_tryBestPartner_32) dL_tryBestPartner_8 ?_
      exact eTx X hR hS (Option.some.inj hf) (Nat.le_of_ble_eq_true rfl) (Nat.le_of_ble_eq_true rfl) dL_tryBestPartner_10
    replace hf := ite_f c_4 hf
    exact nomatch hf
  · refine kVqr (id := 360) (As := [.int x1, .int x2]) (rest := []) X hR hS (zcX5_bestPartner l D cy ad ba O S x1 x2 hl0 _ hq_2) (cwV 2 X.2.2.2.2.2.1 gL_tryBestPartner_X5_bestPartner rfl rfl rfl kdX5_bestPartner ⟨(Nat.le_of_ble_eq_true rfl), (Nat.le_of_ble_eq_true rfl)⟩) (by decide) rfl rfl rfl rfl hl.1 (Nat.le_of_ble_eq_true rfl) ⟨(Nat.le_of_ble_eq_true rfl), (Nat.le_of_ble_eq_true rfl)⟩ dL_tryBestPartner_3 (fun H locs hR hS => ?_)
    exact eTx X hR hS (Option.some.inj hf) (Nat.le_of_ble_eq_true rfl) (Nat.le_of_ble_eq_true rfl) dL_tryBestPartner_6
theorem zcL_tryBestPartner (l : Launch) (D : va_G) (cy : Nat → ClassId) (ad : Nat → Nat) (ba : Nat → Prop) (O : Int64) (S : teS) (x1 : Int32) (x2 : Int32) (hl0 : l.stackTraces = false) (res : (Int32 × teS)) (hf : fL_tryBestPartner x1 x2 S = some res) : lT l yL_tryBestPartner wsL_tryBestPartner rmL_tryBestPartner 1 6 D cy ad ba O S [.ref (ad 360), .int x1, .int x2] res :=
  te_ofh (hh := [(0, 6, 7, 30)]) (by decide) rfl (Nat.le_of_ble_eq_true rfl) (fun p e s m below meth c ls X htab hR hS hl => bL_tryBestPartner_0 (S := S) (x1 := x1) (x2 := x2) X htab hl0 _ _ _ hR hS hl hf)
abbrev rmL_tryBest : Room := { frames := 8, cells := 1, slots := 6, locals := 140 }
theorem kdL_tryBest : yL_tryBest.cls = RL ∧ yL_tryBest.cls ≠ "java/lang/invoke/MethodHandle" ∧ yL_tryBest.cls ≠ "java/lang/invoke/VarHandle" ∧ (parseMethodDescriptor yL_tryBest.desc).map (fun d => d.parameters.length) = some 2 := by decide +kernel
theorem wL_tryBest_15 : Cond.constant RL 15 (-99002) ∈ wsL_tryBest := by decide +kernel
theorem wL_tryBest_k13 : Cond.classLink RL 13 "java/lang/IllegalArgumentException" ∈ wsL_tryBest := by decide +kernel
set_option maxRecDepth 100000 in
set_option maxHeartbeats 4000000 in
theorem bL_tryBest_0 {p : Program} {l : Launch} {e : Env} {s : State} {m : MethodId} {args : Array Value} {below : List Frame} {meth : Method} {c : Code} {D : va_G} {cy : Nat → ClassId} {ad : Nat → Nat} {ba : Nat → Prop} {O : Int64} {S : teS}  {x1 : Int32} {res : (Int32 × teS)} (X : teC wsL_tryBest RL cL_tryBest 3 (some .int) D cy ba p s m args meth c) (htab : c.exceptionTable.toList = tableOf [(0, 5, 6, 13)]) (hl0 : l.stackTraces = false) (H : Heap) (locs : List Loc) (ls : Array Slot) (hR : teR D cy ad ba O S H) (hS : va_S (teA ba) s.heap H locs) (hl : lv_has ls 3 [(0, .ref (ad 360)), (1, .int x1)]) (hf : fL_tryBest x1 S = some res) : W p l e (headSpec wsL_tryBest rmL_tryBest).room s m args below meth c H locs 0 0 (vx_MQ below (va_Qi (fun a (u : teS) => a = res.1 ∧ u = res.2) (fun u t => teR D cy ad ba O u t.heap) (teA ba)) (vx_X (fun _ : Unit => False) (fun _ _ _ => True) (teA ba)) args s 1 6 (teA ba)) (F0 m 0 ls []) := by
  have hx := X.1
  have hb := X.2.1
  have hown := X.2.2.2.2.1
  unfold fL_tryBest at hf
  refine lv_aload_n hx hb dL_tryBest_0 rfl (lv_at hl 0 rfl) ?_
  refine lv_iload_n hx hb dL_tryBest_1 rfl (lv_at hl 1 rfl) ?_
  rcases bxw_some hf with ⟨e_1, hq_2, hf⟩ | ⟨r_3, S1, hq_2, hf⟩
  · by_cases c_4 : e_1 = 1
    · subst c_4
      replace hf := ite_t rfl hf
      refine kVql (id := 360) (As := [.int x1]) (rest := []) X hR hS (zcX5_best l D cy ad ba O S x1 hl0 _ hq_2) (cwV 1 X.2.2.2.2.2.1 gL_tryBest_X5_best rfl rfl rfl kdX5_best ⟨(Nat.le_of_ble_eq_true rfl), (Nat.le_of_ble_eq_true rfl)⟩) (by decide) rfl rfl rfl rfl hl.1 (Nat.le_of_ble_eq_true rfl) ⟨(Nat.le_of_ble_eq_true rfl), (Nat.le_of_ble_eq_true rfl)⟩ dL_tryBest_2 (fun ce q9 H locs hR hS h3 h4 h5 => ?_)
      refine te_catch (c0 := 1) X htab [] [] (0, 5, 6, 13) rfl (by decide) (by decide) (fun z hz => nomatch hz) (by decide) (by decide) wL_tryBest_k13 h3 h4 h5 ?_
      refine lv_astore_n (lv' := [(2, .ref q9), (0, .ref (ad 360)), (1, .int x1)]) hx hb dL_tryBest_6 rfl hl (by decide) rfl (fun ls hl => ?_)
      refine lv_ldc (v := (-99002 : Int32)) hx hb hown (X.2.2.2.2.2.1 _ wL_tryBest_15) dL_tryBest_7 ?_
      exact eTx X hR hS (Option.some.inj hf) (Nat.le_of_ble_eq_true rfl) (Nat.le_of_ble_eq_true rfl) dL_tryBest_9
    replace hf := ite_f c_4 hf
    exact nomatch hf
  · refine kVqr (id := 360) (As := [.int x1]) (rest := []) X hR hS (zcX5_best l D cy ad ba O S x1 hl0 _ hq_2) (cwV 1 X.2.2.2.2.2.1 gL_tryBest_X5_best rfl rfl rfl kdX5_best ⟨(Nat.le_of_ble_eq_true rfl), (Nat.le_of_ble_eq_true rfl)⟩) (by decide) rfl rfl rfl rfl hl.1 (Nat.le_of_ble_eq_true rfl) ⟨(Nat.le_of_ble_eq_true rfl), (Nat.le_of_ble_eq_true rfl)⟩ dL_tryBest_2 (fun H locs hR hS => ?_)
    exact eTx X hR hS (Option.some.inj hf) (Nat.le_of_ble_eq_true rfl) (Nat.le_of_ble_eq_true rfl) dL_tryBest_5
theorem zcL_tryBest (l : Launch) (D : va_G) (cy : Nat → ClassId) (ad : Nat → Nat) (ba : Nat → Prop) (O : Int64) (S : teS) (x1 : Int32) (hl0 : l.stackTraces = false) (res : (Int32 × teS)) (hf : fL_tryBest x1 S = some res) : lT l yL_tryBest wsL_tryBest rmL_tryBest 1 6 D cy ad ba O S [.ref (ad 360), .int x1] res :=
  te_ofh (hh := [(0, 5, 6, 13)]) (by decide) rfl (Nat.le_of_ble_eq_true rfl) (fun p e s m below meth c ls X htab hR hS hl => bL_tryBest_0 (S := S) (x1 := x1) X htab hl0 _ _ _ hR hS hl hf)
abbrev rmL_tryAhead : Room := { frames := 8, cells := 1, slots := 6, locals := 141 }
theorem kdL_tryAhead : yL_tryAhead.cls = RL ∧ yL_tryAhead.cls ≠ "java/lang/invoke/MethodHandle" ∧ yL_tryAhead.cls ≠ "java/lang/invoke/VarHandle" ∧ (parseMethodDescriptor yL_tryAhead.desc).map (fun d => d.parameters.length) = some 5 := by decide +kernel
theorem wL_tryAhead_32 : Cond.constant RL 32 (-99001) ∈ wsL_tryAhead := by decide +kernel
theorem wL_tryAhead_k30 : Cond.classLink RL 30 "java/lang/IndexOutOfBoundsException" ∈ wsL_tryAhead := by decide +kernel
theorem wL_tryAhead_15 : Cond.constant RL 15 (-99002) ∈ wsL_tryAhead := by decide +kernel
theorem wL_tryAhead_k13 : Cond.classLink RL 13 "java/lang/IllegalArgumentException" ∈ wsL_tryAhead := by decide +kernel
set_option maxRecDepth 100000 in
set_option maxHeartbeats 4000000 in
theorem bL_tryAhead_0 {p : Program} {l : Launch} {e : Env} {s : State} {m : MethodId} {args : Array Value} {below : List Frame} {meth : Method} {c : Code} {D : va_G} {cy : Nat → ClassId} {ad : Nat → Nat} {ba : Nat → Prop} {O : Int64} {S : teS}  {x1 : Int32} {x2 : Int32} {x3 : Int32} {x4 : Int32} {res : (Int32 × teS)} (X : teC wsL_tryAhead RL cL_tryAhead 6 (some .int) D cy ba p s m args meth c) (htab : c.exceptionTable.toList = tableOf [(0, 9, 10, 30), (0, 9, 15, 13)]) (hl0 : l.stackTraces = false) (H : Heap) (locs : List Loc) (ls : Array Slot) (hR : teR D cy ad ba O S H) (hS : va_S (teA ba) s.heap H locs) (hl : lv_has ls 6 [(0, .ref (ad 360)), (1, .int x1), (2, .int x2), (3, .int x3), (4, .int x4)]) (hf : fL_tryAhead x1 x2 x3 x4 S = some res) : W p l e (headSpec wsL_tryAhead rmL_tryAhead).room s m args below meth c H locs 0 0 (vx_MQ below (va_Qi (fun a (u : teS) => a = res.1 ∧ u = res.2) (fun u t => teR D cy ad ba O u t.heap) (teA ba)) (vx_X (fun _ : Unit => False) (fun _ _ _ => True) (teA ba)) args s 1 6 (teA ba)) (F0 m 0 ls []) := by
  have hx := X.1
  have hb := X.2.1
  have hown := X.2.2.2.2.1
  unfold fL_tryAhead at hf
  refine lv_aload_n hx hb dL_tryAhead_0 rfl (lv_at hl 0 rfl) ?_
  refine lv_iload_n hx hb dL_tryAhead_1 rfl (lv_at hl 1 rfl) ?_
  refine lv_iload_n hx hb dL_tryAhead_2 rfl (lv_at hl 2 rfl) ?_
  refine lv_iload_n hx hb dL_tryAhead_3 rfl (lv_at hl 3 rfl) ?_
  refine lv_iload hx hb dL_tryAhead_4 (lv_at hl 4 rfl) ?_
  rcases bxw_some hf with ⟨e_1, hq_2, hf⟩ | ⟨r_3, S1, hq_2, hf⟩
  · by_cases c_4 : e_1 = 3
    · subst c_4
      replace hf := ite_t rfl hf
      refine kVql (id := 360) (As := [.int x1, .int x2, .int x3, .int x4]) (rest := []) X hR hS (zcX5_ahead l D cy ad ba O S x1 x2 x3 x4 hl0 _ hq_2) (cwV 4 X.2.2.2.2.2.1 gL_tryAhead_X5_ahead rfl rfl rfl kdX5_ahead ⟨(Nat.le_of_ble_eq_true rfl), (Nat.le_of_ble_eq_true rfl)⟩) (by decide) rfl rfl rfl rfl hl.1 (Nat.le_of_ble_eq_true rfl) ⟨(Nat.le_of_ble_eq_true rfl), (Nat.le_of_ble_eq_true rfl)⟩ dL_tryAhead_6 (fun ce q9 H locs hR hS h3 h4 h5 => ?_)
      refine te_catch (c0 := 3) X htab [] [(0, 9, 15, 13)] (0, 9, 10, 30) rfl (by decide) (by decide) (fun z hz => nomatch hz) (by decide) (by decide) wL_tryAhead_k30 h3 h4 h5 ?_
      refine lv_astore (lv' := [(5, .ref q9), (0, .ref (ad 360)), (1, .int x1), (2, .int x2), (3, .int x3), (4, .int x4)]) hx hb dL_tryAhead_10 hl (by decide) rfl (fun ls hl => ?_)
      refine lv_ldc (v := (-99001 : Int32)) hx hb hown (X.2.2.2.2.2.1 _ wL_tryAhead_32) dL_tryAhead_12 ?_
      exact eTx X hR hS (Option.some.inj hf) (Nat.le_of_ble_eq_true rfl) (Nat.le_of_ble_eq_true rfl) dL_tryAhead_14
    replace hf := ite_f c_4 hf
    by_cases c_5 : e_1 = 1
    · subst c_5
      replace hf := ite_t rfl hf
      refine kVql (id := 360) (As := [.int x1, .int x2, .int x3, .int x4]) (rest := []) X hR hS (zcX5_ahead l D cy ad ba O S x1 x2 x3 x4 hl0 _ hq_2) (cwV 4 X.2.2.2.2.2.1 gL_tryAhead_X5_ahead rfl rfl rfl kdX5_ahead ⟨(Nat.le_of_ble_eq_true rfl), (Nat.le_of_ble_eq_true rfl)⟩) (by decide) rfl rfl rfl rfl hl.1 (Nat.le_of_ble_eq_true rfl) ⟨(Nat.le_of_ble_eq_true rfl), (Nat.le_of_ble_eq_true rfl)⟩ dL_tryAhead_6 (fun ce q9 H locs hR hS h3 h4 h5 => ?_)
      refine te_catch (c0 := 1) X htab [(0, 9, 10, 30)] [] (0, 9, 15, 13) rfl (by decide) (by decide) (List.forall_mem_cons.mpr ⟨⟨by decide, 3, by decide, by decide, by decide, wL_tryAhead_k30⟩, fun z hz => nomatch hz⟩) (by decide) (by decide) wL_tryAhead_k13 h3 h4 h5 ?_
      refine lv_astore (lv' := [(5, .ref q9), (0, .ref (ad 360)), (1, .int x1), (2, .int x2), (3, .int x3), (4, .int x4)]) hx hb dL_tryAhead_15 hl (by decide) rfl (fun ls hl => ?_)
      refine lv_ldc (v := (-99002 : Int32)) hx hb hown (X.2.2.2.2.2.1 _ wL_tryAhead_15) dL_tryAhead_17 ?_
      exact eTx X hR hS (Option.some.inj hf) (Nat.le_of_ble_eq_true rfl) (Nat.le_of_ble_eq_true rfl) dL_tryAhead_19
    replace hf := ite_f c_5 hf
    exact nomatch hf
  · refine kVqr (id := 360) (As := [.int x1, .int x2, .int x3, .int x4]) (rest := []) X hR hS (zcX5_ahead l D cy ad ba O S x1 x2 x3 x4 hl0 _ hq_2) (cwV 4 X.2.2.2.2.2.1 gL_tryAhead_X5_ahead rfl rfl rfl kdX5_ahead ⟨(Nat.le_of_ble_eq_true rfl), (Nat.le_of_ble_eq_true rfl)⟩) (by decide) rfl rfl rfl rfl hl.1 (Nat.le_of_ble_eq_true rfl) ⟨(Nat.le_of_ble_eq_true rfl), (Nat.le_of_ble_eq_true rfl)⟩ dL_tryAhead_6 (fun H locs hR hS => ?_)
    exact eTx X hR hS (Option.some.inj hf) (Nat.le_of_ble_eq_true rfl) (Nat.le_of_ble_eq_true rfl) dL_tryAhead_9
theorem zcL_tryAhead (l : Launch) (D : va_G) (cy : Nat → ClassId) (ad : Nat → Nat) (ba : Nat → Prop) (O : Int64) (S : teS) (x1 : Int32) (x2 : Int32) (x3 : Int32) (x4 : Int32) (hl0 : l.stackTraces = false) (res : (Int32 × teS)) (hf : fL_tryAhead x1 x2 x3 x4 S = some res) : lT l yL_tryAhead wsL_tryAhead rmL_tryAhead 1 6 D cy ad ba O S [.ref (ad 360), .int x1, .int x2, .int x3, .int x4] res :=
  te_ofh (hh := [(0, 9, 10, 30), (0, 9, 15, 13)]) (by decide) rfl (Nat.le_of_ble_eq_true rfl) (fun p e s m below meth c ls X htab hR hS hl => bL_tryAhead_0 (S := S) (x1 := x1) (x2 := x2) (x3 := x3) (x4 := x4) X htab hl0 _ _ _ hR hS hl hf)
abbrev rmL_tryLevelAfter : Room := { frames := 8, cells := 1, slots := 6, locals := 139 }
theorem kdL_tryLevelAfter : yL_tryLevelAfter.cls = RL ∧ yL_tryLevelAfter.cls ≠ "java/lang/invoke/MethodHandle" ∧ yL_tryLevelAfter.cls ≠ "java/lang/invoke/VarHandle" ∧ (parseMethodDescriptor yL_tryLevelAfter.desc).map (fun d => d.parameters.length) = some 3 := by decide +kernel
theorem wL_tryLevelAfter_32 : Cond.constant RL 32 (-99001) ∈ wsL_tryLevelAfter := by decide +kernel
theorem wL_tryLevelAfter_k30 : Cond.classLink RL 30 "java/lang/IndexOutOfBoundsException" ∈ wsL_tryLevelAfter := by decide +kernel
theorem wL_tryLevelAfter_15 : Cond.constant RL 15 (-99002) ∈ wsL_tryLevelAfter := by decide +kernel
theorem wL_tryLevelAfter_k13 : Cond.classLink RL 13 "java/lang/IllegalArgumentException" ∈ wsL_tryLevelAfter := by decide +kernel
set_option maxRecDepth 100000 in
set_option maxHeartbeats 4000000 in
theorem bL_tryLevelAfter_0 {p : Program} {l : Launch} {e : Env} {s : State} {m : MethodId} {args : Array Value} {below : List Frame} {meth : Method} {c : Code} {D : va_G} {cy : Nat → ClassId} {ad : Nat → Nat} {ba : Nat → Prop} {O : Int64} {S : teS}  {x1 : Int32} {x2 : Int32} {res : (Int32 × teS)} (X : teC wsL_tryLevelAfter RL cL_tryLevelAfter 4 (some .int) D cy ba p s m args meth c) (htab : c.exceptionTable.toList = tableOf [(0, 6, 7, 30), (0, 6, 11, 13)]) (hl0 : l.stackTraces = false) (H : Heap) (locs : List Loc) (ls : Array Slot) (hR : teR D cy ad ba O S H) (hS : va_S (teA ba) s.heap H locs) (hl : lv_has ls 4 [(0, .ref (ad 360)), (1, .int x1), (2, .int x2)]) (hf : fL_tryLevelAfter x1 x2 S = some res) : W p l e (headSpec wsL_tryLevelAfter rmL_tryLevelAfter).room s m args below meth c H locs 0 0 (vx_MQ below (va_Qi (fun a (u : teS) => a = res.1 ∧ u = res.2) (fun u t => teR D cy ad ba O u t.heap) (teA ba)) (vx_X (fun _ : Unit => False) (fun _ _ _ => True) (teA ba)) args s 1 6 (teA ba)) (F0 m 0 ls []) := by
  have hx := X.1
  have hb := X.2.1
  have hown := X.2.2.2.2.1
  unfold fL_tryLevelAfter at hf
  refine lv_aload_n hx hb dL_tryLevelAfter_0 rfl (lv_at hl 0 rfl) ?_
  refine lv_iload_n hx hb dL_tryLevelAfter_1 rfl (lv_at hl 1 rfl) ?_
  refine lv_iload_n hx hb dL_tryLevelAfter_2 rfl (lv_at hl 2 rfl) ?_
  rcases bxw_some hf with ⟨e_1, hq_2, hf⟩ | ⟨r_3, S1, hq_2, hf⟩
  · by_cases c_4 : e_1 = 3
    · subst c_4
      replace hf := ite_t rfl hf
      refine kVql (id := 360) (As := [.int x1, .int x2]) (rest := []) X hR hS (zcX5_levelAfter l D cy ad ba O S x1 x2 hl0 _ hq_2) (cwV 2 X.2.2.2.2.2.1 gL_tryLevelAfter_X5_levelAfter rfl rfl rfl kdX5_levelAfter ⟨(Nat.le_of_ble_eq_true rfl), (Nat.le_of_ble_eq_true rfl)⟩) (by decide) rfl rfl rfl rfl hl.1 (Nat.le_of_ble_eq_true rfl) ⟨(Nat.le_of_ble_eq_true rfl), (Nat.le_of_ble_eq_true rfl)⟩ dL_tryLevelAfter_3 (fun ce q9 H locs hR hS h3 h4 h5 => ?_)
      refine te_catch (c0 := 3) X htab [] [(0, 6, 11, 13)] (0, 6, 7, 30) rfl (by decide) (by decide) (fun z hz => nomatch hz) (by decide) (by decide) wL_tryLevelAfter_k30 h3 h4 h5 ?_
      refine lv_astore_n (lv' := [(3, .ref q9), (0, .ref (ad 360)), (1, .int x1), (2, .int x2)]) hx hb dL_tryLevelAfter_7 rfl hl (by decide) rfl (fun ls hl => ?_)
      refine lv_ldc (v := (-99001 : Int32)) hx hb hown (X.2.2.2.2.2.1 _ wL_tryLevelAfter_32) dL_tryLevelAfter_8 ?_
      exact eTx X hR hS (Option.some.inj hf) (Nat.le_of_ble_eq_true rfl) (Nat.le_of_ble_eq_true rfl) dL_tryLevelAfter_10
    replace hf := ite_f c_4 hf
    by_cases c_5 : e_1 = 1
    · subst c_5
      replace hf := ite_t rfl hf
      refine kVql (id := 360) (As := [.int x1, .int x2]) (rest := []) X hR hS (zcX5_levelAfter l D cy ad ba O S x1 x2 hl0 _ hq_2) (cwV 2 X.2.2.2.2.2.1 gL_tryLevelAfter_X5_levelAfter rfl rfl rfl kdX5_levelAfter ⟨(Nat.le_of_ble_eq_true rfl), (Nat.le_of_ble_eq_true rfl)⟩) (by decide) rfl rfl rfl rfl hl.1 (Nat.le_of_ble_eq_true rfl) ⟨(Nat.le_of_ble_eq_true rfl), (Nat.le_of_ble_eq_true rfl)⟩ dL_tryLevelAfter_3 (fun ce q9 H locs hR hS h3 h4 h5 => ?_)
      refine te_catch (c0 := 1) X htab [(0, 6, 7, 30)] [] (0, 6, 11, 13) rfl (by decide) (by decide) (List.forall_mem_cons.mpr ⟨⟨by decide, 3, by decide, by decide, by decide, wL_tryLevelAfter_k30⟩, fun z hz => nomatch hz⟩) (by decide) (by decide) wL_tryLevelAfter_k13 h3 h4 h5 ?_
      refine lv_astore_n (lv' := [(3, .ref q9), (0, .ref (ad 360)), (1, .int x1), (2, .int x2)]) hx hb dL_tryLevelAfter_11 rfl hl (by decide) rfl (fun ls hl => ?_)
      refine lv_ldc (v := (-99002 : Int32)) hx hb hown (X.2.2.2.2.2.1 _ wL_tryLevelAfter_15) dL_tryLevelAfter_12 ?_
      exact eTx X hR hS (Option.some.inj hf) (Nat.le_of_ble_eq_true rfl) (Nat.le_of_ble_eq_true rfl) dL_tryLevelAfter_14
    replace hf := ite_f c_5 hf
    exact nomatch hf
  · refine kVqr (id := 360) (As := [.int x1, .int x2]) (rest := []) X hR hS (zcX5_levelAfter l D cy ad ba O S x1 x2 hl0 _ hq_2) (cwV 2 X.2.2.2.2.2.1 gL_tryLevelAfter_X5_levelAfter rfl rfl rfl kdX5_levelAfter ⟨(Nat.le_of_ble_eq_true rfl), (Nat.le_of_ble_eq_true rfl)⟩) (by decide) rfl rfl rfl rfl hl.1 (Nat.le_of_ble_eq_true rfl) ⟨(Nat.le_of_ble_eq_true rfl), (Nat.le_of_ble_eq_true rfl)⟩ dL_tryLevelAfter_3 (fun H locs hR hS => ?_)
    exact eTx X hR hS (Option.some.inj hf) (Nat.le_of_ble_eq_true rfl) (Nat.le_of_ble_eq_true rfl) dL_tryLevelAfter_6
theorem zcL_tryLevelAfter (l : Launch) (D : va_G) (cy : Nat → ClassId) (ad : Nat → Nat) (ba : Nat → Prop) (O : Int64) (S : teS) (x1 : Int32) (x2 : Int32) (hl0 : l.stackTraces = false) (res : (Int32 × teS)) (hf : fL_tryLevelAfter x1 x2 S = some res) : lT l yL_tryLevelAfter wsL_tryLevelAfter rmL_tryLevelAfter 1 6 D cy ad ba O S [.ref (ad 360), .int x1, .int x2] res :=
  te_ofh (hh := [(0, 6, 7, 30), (0, 6, 11, 13)]) (by decide) rfl (Nat.le_of_ble_eq_true rfl) (fun p e s m below meth c ls X htab hR hS hl => bL_tryLevelAfter_0 (S := S) (x1 := x1) (x2 := x2) X htab hl0 _ _ _ hR hS hl hf)
abbrev rmL_tryPartsAfter : Room := { frames := 8, cells := 1, slots := 6, locals := 139 }
theorem kdL_tryPartsAfter : yL_tryPartsAfter.cls = RL ∧ yL_tryPartsAfter.cls ≠ "java/lang/invoke/MethodHandle" ∧ yL_tryPartsAfter.cls ≠ "java/lang/invoke/VarHandle" ∧ (parseMethodDescriptor yL_tryPartsAfter.desc).map (fun d => d.parameters.length) = some 3 := by decide +kernel
theorem wL_tryPartsAfter_32 : Cond.constant RL 32 (-99001) ∈ wsL_tryPartsAfter := by decide +kernel
theorem wL_tryPartsAfter_k30 : Cond.classLink RL 30 "java/lang/IndexOutOfBoundsException" ∈ wsL_tryPartsAfter := by decide +kernel
theorem wL_tryPartsAfter_15 : Cond.constant RL 15 (-99002) ∈ wsL_tryPartsAfter := by decide +kernel
theorem wL_tryPartsAfter_k13 : Cond.classLink RL 13 "java/lang/IllegalArgumentException" ∈ wsL_tryPartsAfter := by decide +kernel
theorem wL_tryPartsAfter_18 : Cond.constant RL 18 (-99003) ∈ wsL_tryPartsAfter := by decide +kernel
theorem wL_tryPartsAfter_k16 : Cond.classLink RL 16 "java/lang/IllegalStateException" ∈ wsL_tryPartsAfter := by decide +kernel
set_option maxRecDepth 100000 in
set_option maxHeartbeats 4000000 in
theorem bL_tryPartsAfter_0 {p : Program} {l : Launch} {e : Env} {s : State} {m : MethodId} {args : Array Value} {below : List Frame} {meth : Method} {c : Code} {D : va_G} {cy : Nat → ClassId} {ad : Nat → Nat} {ba : Nat → Prop} {O : Int64} {S : teS}  {x1 : Int32} {x2 : Int32} {res : (Int32 × teS)} (X : teC wsL_tryPartsAfter RL cL_tryPartsAfter 4 (some .int) D cy ba p s m args meth c) (htab : c.exceptionTable.toList = tableOf [(0, 6, 7, 30), (0, 6, 11, 13), (0, 6, 15, 16)]) (hl0 : l.stackTraces = false) (H : Heap) (locs : List Loc) (ls : Array Slot) (hR : teR D cy ad ba O S H) (hS : va_S (teA ba) s.heap H locs) (hl : lv_has ls 4 [(0, .ref (ad 360)), (1, .int x1), (2, .int x2)]) (hf : fL_tryPartsAfter x1 x2 S = some res) : W p l e (headSpec wsL_tryPartsAfter rmL_tryPartsAfter).room s m args below meth c H locs 0 0 (vx_MQ below (va_Qi (fun a (u : teS) => a = res.1 ∧ u = res.2) (fun u t => teR D cy ad ba O u t.heap) (teA ba)) (vx_X (fun _ : Unit => False) (fun _ _ _ => True) (teA ba)) args s 1 6 (teA ba)) (F0 m 0 ls []) := by
  have hx := X.1
  have hb := X.2.1
  have hown := X.2.2.2.2.1
  unfold fL_tryPartsAfter at hf
  refine lv_aload_n hx hb dL_tryPartsAfter_0 rfl (lv_at hl 0 rfl) ?_
  refine lv_iload_n hx hb dL_tryPartsAfter_1 rfl (lv_at hl 1 rfl) ?_
  refine lv_iload_n hx hb dL_tryPartsAfter_2 rfl (lv_at hl 2 rfl) ?_
  rcases bxw_some hf with ⟨e_1, hq_2, hf⟩ | ⟨r_3, S1, hq_2, hf⟩
  · by_cases c_4 : e_1 = 3
    · subst c_4
      replace hf := ite_t rfl hf
      refine kVql (id := 360) (As := [.int x1, .int x2]) (rest := []) X hR hS (zcX5_partsAfter l D cy ad ba O S x1 x2 hl0 _ hq_2) (cwV 2 X.2.2.2.2.2.1 gL_tryPartsAfter_X5_partsAfter rfl rfl rfl kdX5_partsAfter ⟨(Nat.le_of_ble_eq_true rfl), (Nat.le_of_ble_eq_true rfl)⟩) (by decide) rfl rfl rfl rfl hl.1 (Nat.le_of_ble_eq_true rfl) ⟨(Nat.le_of_ble_eq_true rfl), (Nat.le_of_ble_eq_true rfl)⟩ dL_tryPartsAfter_3 (fun ce q9 H locs hR hS h3 h4 h5 => ?_)
      refine te_catch (c0 := 3) X htab [] [(0, 6, 11, 13), (0, 6, 15, 16)] (0, 6, 7, 30) rfl (by decide) (by decide) (fun z hz => nomatch hz) (by decide) (by decide) wL_tryPartsAfter_k30 h3 h4 h5 ?_
      refine lv_astore_n (lv' := [(3, .ref q9), (0, .ref (ad 360)), (1, .int x1), (2, .int x2)]) hx hb dL_tryPartsAfter_7 rfl hl (by decide) rfl (fun ls hl => ?_)
      refine lv_ldc (v := (-99001 : Int32)) hx hb hown (X.2.2.2.2.2.1 _ wL_tryPartsAfter_32) dL_tryPartsAfter_8 ?_
      exact eTx X hR hS (Option.some.inj hf) (Nat.le_of_ble_eq_true rfl) (Nat.le_of_ble_eq_true rfl) dL_tryPartsAfter_10
    replace hf := ite_f c_4 hf
    by_cases c_5 : e_1 = 1
    · subst c_5
      replace hf := ite_t rfl hf
      refine kVql (id := 360) (As := [.int x1, .int x2]) (rest := []) X hR hS (zcX5_partsAfter l D cy ad ba O S x1 x2 hl0 _ hq_2) (cwV 2 X.2.2.2.2.2.1 gL_tryPartsAfter_X5_partsAfter rfl rfl rfl kdX5_partsAfter ⟨(Nat.le_of_ble_eq_true rfl), (Nat.le_of_ble_eq_true rfl)⟩) (by decide) rfl rfl rfl rfl hl.1 (Nat.le_of_ble_eq_true rfl) ⟨(Nat.le_of_ble_eq_true rfl), (Nat.le_of_ble_eq_true rfl)⟩ dL_tryPartsAfter_3 (fun ce q9 H locs hR hS h3 h4 h5 => ?_)
      refine te_catch (c0 := 1) X htab [(0, 6, 7, 30)] [(0, 6, 15, 16)] (0, 6, 11, 13) rfl (by decide) (by decide) (List.forall_mem_cons.mpr ⟨⟨by decide, 3, by decide, by decide, by decide, wL_tryPartsAfter_k30⟩, fun z hz => nomatch hz⟩) (by decide) (by decide) wL_tryPartsAfter_k13 h3 h4 h5 ?_
      refine lv_astore_n (lv' := [(3, .ref q9), (0, .ref (ad 360)), (1, .int x1), (2, .int x2)]) hx hb dL_tryPartsAfter_11 rfl hl (by decide) rfl (fun ls hl => ?_)
      refine lv_ldc (v := (-99002 : Int32)) hx hb hown (X.2.2.2.2.2.1 _ wL_tryPartsAfter_15) dL_tryPartsAfter_12 ?_
      exact eTx X hR hS (Option.some.inj hf) (Nat.le_of_ble_eq_true rfl) (Nat.le_of_ble_eq_true rfl) dL_tryPartsAfter_14
    replace hf := ite_f c_5 hf
    by_cases c_6 : e_1 = 2
    · subst c_6
      replace hf := ite_t rfl hf
      refine kVql (id := 360) (As := [.int x1, .int x2]) (rest := []) X hR hS (zcX5_partsAfter l D cy ad ba O S x1 x2 hl0 _ hq_2) (cwV 2 X.2.2.2.2.2.1 gL_tryPartsAfter_X5_partsAfter rfl rfl rfl kdX5_partsAfter ⟨(Nat.le_of_ble_eq_true rfl), (Nat.le_of_ble_eq_true rfl)⟩) (by decide) rfl rfl rfl rfl hl.1 (Nat.le_of_ble_eq_true rfl) ⟨(Nat.le_of_ble_eq_true rfl), (Nat.le_of_ble_eq_true rfl)⟩ dL_tryPartsAfter_3 (fun ce q9 H locs hR hS h3 h4 h5 => ?_)
      refine te_catch (c0 := 2) X htab [(0, 6, 7, 30), (0, 6, 11, 13)] [] (0, 6, 15, 16) rfl (by decide) (by decide) (List.forall_mem_cons.mpr ⟨⟨by decide, 3, by decide, by decide, by decide, wL_tryPartsAfter_k30⟩, List.forall_mem_cons.mpr ⟨⟨by decide, 1, by decide, by decide, by decide, wL_tryPartsAfter_k13⟩, fun z hz => nomatch hz⟩⟩) (by decide) (by decide) wL_tryPartsAfter_k16 h3 h4 h5 ?_
      refine lv_astore_n (lv' := [(3, .ref q9), (0, .ref (ad 360)), (1, .int x1), (2, .int x2)]) hx hb dL_tryPartsAfter_15 rfl hl (by decide) rfl (fun ls hl => ?_)
      refine lv_ldc (v := (-99003 : Int32)) hx hb hown (X.2.2.2.2.2.1 _ wL_tryPartsAfter_18) dL_tryPartsAfter_16 ?_
      exact eTx X hR hS (Option.some.inj hf) (Nat.le_of_ble_eq_true rfl) (Nat.le_of_ble_eq_true rfl) dL_tryPartsAfter_18
    replace hf := ite_f c_6 hf
    exact nomatch hf
  · refine kVqr (id := 360) (As := [.int x1, .int x2]) (rest := []) X hR hS (zcX5_partsAfter l D cy ad ba O S x1 x2 hl0 _ hq_2) (cwV 2 X.2.2.2.2.2.1 gL_tryPartsAfter_X5_partsAfter rfl rfl rfl kdX5_partsAfter ⟨(Nat.le_of_ble_eq_true rfl), (Nat.le_of_ble_eq_true rfl)⟩) (by decide) rfl rfl rfl rfl hl.1 (Nat.le_of_ble_eq_true rfl) ⟨(Nat.le_of_ble_eq_true rfl), (Nat.le_of_ble_eq_true rfl)⟩ dL_tryPartsAfter_3 (fun H locs hR hS => ?_)
    exact eTx X hR hS (Option.some.inj hf) (Nat.le_of_ble_eq_true rfl) (Nat.le_of_ble_eq_true rfl) dL_tryPartsAfter_6
theorem zcL_tryPartsAfter (l : Launch) (D : va_G) (cy : Nat → ClassId) (ad : Nat → Nat) (ba : Nat → Prop) (O : Int64) (S : teS) (x1 : Int32) (x2 : Int32) (hl0 : l.stackTraces = false) (res : (Int32 × teS)) (hf : fL_tryPartsAfter x1 x2 S = some res) : lT l yL_tryPartsAfter wsL_tryPartsAfter rmL_tryPartsAfter 1 6 D cy ad ba O S [.ref (ad 360), .int x1, .int x2] res :=
  te_ofh (hh := [(0, 6, 7, 30), (0, 6, 11, 13), (0, 6, 15, 16)]) (by decide) rfl (Nat.le_of_ble_eq_true rfl) (fun p e s m below meth c ls X htab hR hS hl => bL_tryPartsAfter_0 (S := S) (x1 := x1) (x2 := x2) X htab hl0 _ _ _ hR hS hl hf)
abbrev rmL_tryScript : Room := { frames := 8, cells := 1, slots := 6, locals := 186 }
theorem kdL_tryScript : yL_tryScript.cls = RL ∧ yL_tryScript.cls ≠ "java/lang/invoke/MethodHandle" ∧ yL_tryScript.cls ≠ "java/lang/invoke/VarHandle" ∧ (parseMethodDescriptor yL_tryScript.desc).map (fun d => d.parameters.length) = some 3 := by decide +kernel
theorem wL_tryScript_15 : Cond.constant RL 15 (-99002) ∈ wsL_tryScript := by decide +kernel
theorem wL_tryScript_k13 : Cond.classLink RL 13 "java/lang/IllegalArgumentException" ∈ wsL_tryScript := by decide +kernel
set_option maxRecDepth 100000 in
set_option maxHeartbeats 4000000 in
theorem bL_tryScript_0 {p : Program} {l : Launch} {e : Env} {s : State} {m : MethodId} {args : Array Value} {below : List Frame} {meth : Method} {c : Code} {D : va_G} {cy : Nat → ClassId} {ad : Nat → Nat} {ba : Nat → Prop} {O : Int64} {S : teS}  {x1 : Int32} {x2 : Int64} {res : (Int32 × teS)} (X : teC wsL_tryScript RL cL_tryScript 5 (some .int) D cy ba p s m args meth c) (htab : c.exceptionTable.toList = tableOf [(0, 6, 7, 13)]) (hl0 : l.stackTraces = false) (H : Heap) (locs : List Loc) (ls : Array Slot) (hR : teR D cy ad ba O S H) (hS : va_S (teA ba) s.heap H locs) (hl : lv_has ls 5 [(0, .ref (ad 360)), (1, .int x1), (2, .long x2)]) (hf : fL_tryScript x1 x2 S = some res) : W p l e (headSpec wsL_tryScript rmL_tryScript).room s m args below meth c H locs 0 0 (vx_MQ below (va_Qi (fun a (u : teS) => a = res.1 ∧ u = res.2) (fun u t => teR D cy ad ba O u t.heap) (teA ba)) (vx_X (fun _ : Unit => False) (fun _ _ _ => True) (teA ba)) args s 1 6 (teA ba)) (F0 m 0 ls []) := by
  have hx := X.1
  have hb := X.2.1
  have hown := X.2.2.2.2.1
  unfold fL_tryScript at hf
  refine lv_aload_n hx hb dL_tryScript_0 rfl (lv_at hl 0 rfl) ?_
  refine lv_iload_n hx hb dL_tryScript_1 rfl (lv_at hl 1 rfl) ?_
  refine lv_lload_n hx hb dL_tryScript_2 rfl (lv_at hl 2 rfl) ?_
  rcases bxw_some hf with ⟨e_1, hq_2, hf⟩ | ⟨r_3, S1, hq_2, hf⟩
  · by_cases c_4 : e_1 = 1
    · subst c_4
      replace hf := ite_t rfl hf
      refine kVql (id := 360) (As := [.int x1, .long x2]) (rest := []) X hR hS (zcX5_runScript l D cy ad ba O S x1 x2 hl0 _ hq_2) (cwV 2 X.2.2.2.2.2.1 gL_tryScript_X5_runScript rfl rfl rfl kdX5_runScript ⟨(Nat.le_of_ble_eq_true rfl), (Nat.le_of_ble_eq_true rfl)⟩) (by decide) rfl rfl rfl rfl hl.1 (Nat.le_of_ble_eq_true rfl) ⟨(Nat.le_of_ble_eq_true rfl), (Nat.le_of_ble_eq_true rfl)⟩ dL_tryScript_3 (fun ce q9 H locs hR hS h3 h4 h5 => ?_)
      refine te_catch (c0 := 1) X htab [] [] (0, 6, 7, 13) rfl (by decide) (by decide) (fun z hz => nomatch hz) (by decide) (by decide) wL_tryScript_k13 h3 h4 h5 ?_
      refine lv_astore (lv' := [(4, .ref q9), (0, .ref (ad 360)), (1, .int x1), (2, .long x2)]) hx hb dL_tryScript_7 hl (by decide) rfl (fun ls hl => ?_)
      refine lv_ldc (v := (-99002 : Int32)) hx hb hown (X.2.2.2.2.2.1 _ wL_tryScript_15) dL_tryScript_9 ?_
      exact eTx X hR hS (Option.some.inj hf) (Nat.le_of_ble_eq_true rfl) (Nat.le_of_ble_eq_true rfl) dL_tryScript_11
    replace hf := ite_f c_4 hf
    exact nomatch hf
  · refine kVqr (id := 360) (As := [.int x1, .long x2]) (rest := []) X hR hS (zcX5_runScript l D cy ad ba O S x1 x2 hl0 _ hq_2) (cwV 2 X.2.2.2.2.2.1 gL_tryScript_X5_runScript rfl rfl rfl kdX5_runScript ⟨(Nat.le_of_ble_eq_true rfl), (Nat.le_of_ble_eq_true rfl)⟩) (by decide) rfl rfl rfl rfl hl.1 (Nat.le_of_ble_eq_true rfl) ⟨(Nat.le_of_ble_eq_true rfl), (Nat.le_of_ble_eq_true rfl)⟩ dL_tryScript_3 (fun H locs hR hS => ?_)
    exact eTx X hR hS (Option.some.inj hf) (Nat.le_of_ble_eq_true rfl) (Nat.le_of_ble_eq_true rfl) dL_tryScript_6
theorem zcL_tryScript (l : Launch) (D : va_G) (cy : Nat → ClassId) (ad : Nat → Nat) (ba : Nat → Prop) (O : Int64) (S : teS) (x1 : Int32) (x2 : Int64) (hl0 : l.stackTraces = false) (res : (Int32 × teS)) (hf : fL_tryScript x1 x2 S = some res) : lT l yL_tryScript wsL_tryScript rmL_tryScript 1 6 D cy ad ba O S [.ref (ad 360), .int x1, .long x2] res :=
  te_ofh (hh := [(0, 6, 7, 13)]) (by decide) rfl (Nat.le_of_ble_eq_true rfl) (fun p e s m below meth c ls X htab hR hS hl => bL_tryScript_0 (S := S) (x1 := x1) (x2 := x2) X htab hl0 _ _ _ hR hS hl hf)
abbrev rmL_trySimulate : Room := { frames := 8, cells := 1, slots := 6, locals := 143 }
theorem kdL_trySimulate : yL_trySimulate.cls = RL ∧ yL_trySimulate.cls ≠ "java/lang/invoke/MethodHandle" ∧ yL_trySimulate.cls ≠ "java/lang/invoke/VarHandle" ∧ (parseMethodDescriptor yL_trySimulate.desc).map (fun d => d.parameters.length) = some 3 := by decide +kernel
theorem wL_trySimulate_15 : Cond.constant RL 15 (-99002) ∈ wsL_trySimulate := by decide +kernel
theorem wL_trySimulate_k13 : Cond.classLink RL 13 "java/lang/IllegalArgumentException" ∈ wsL_trySimulate := by decide +kernel
set_option maxRecDepth 100000 in
set_option maxHeartbeats 4000000 in
theorem bL_trySimulate_0 {p : Program} {l : Launch} {e : Env} {s : State} {m : MethodId} {args : Array Value} {below : List Frame} {meth : Method} {c : Code} {D : va_G} {cy : Nat → ClassId} {ad : Nat → Nat} {ba : Nat → Prop} {O : Int64} {S : teS}  {x1 : Int64} {x3 : Int32} {res : (Int32 × teS)} (X : teC wsL_trySimulate RL cL_trySimulate 5 (some .int) D cy ba p s m args meth c) (htab : c.exceptionTable.toList = tableOf [(0, 6, 7, 13)]) (hl0 : l.stackTraces = false) (H : Heap) (locs : List Loc) (ls : Array Slot) (hR : teR D cy ad ba O S H) (hS : va_S (teA ba) s.heap H locs) (hl : lv_has ls 5 [(0, .ref (ad 360)), (1, .long x1), (3, .int x3)]) (hf : fL_trySimulate x1 x3 S = some res) : W p l e (headSpec wsL_trySimulate rmL_trySimulate).room s m args below meth c H locs 0 0 (vx_MQ below (va_Qi (fun a (u : teS) => a = res.1 ∧ u = res.2) (fun u t => teR D cy ad ba O u t.heap) (teA ba)) (vx_X (fun _ : Unit => False) (fun _ _ _ => True) (teA ba)) args s 1 6 (teA ba)) (F0 m 0 ls []) := by
  have hx := X.1
  have hb := X.2.1
  have hown := X.2.2.2.2.1
  unfold fL_trySimulate at hf
  refine lv_aload_n hx hb dL_trySimulate_0 rfl (lv_at hl 0 rfl) ?_
  refine lv_lload_n hx hb dL_trySimulate_1 rfl (lv_at hl 1 rfl) ?_
  refine lv_iload_n hx hb dL_trySimulate_2 rfl (lv_at hl 2 rfl) ?_
  rcases bxw_some hf with ⟨e_1, hq_2, hf⟩ | ⟨r_3, S1, hq_2, hf⟩
  · by_cases c_4 : e_1 = 1
    · subst c_4
      replace hf := ite_t rfl hf
      refine kVql (id := 360) (As := [.long x1, .int x3]) (rest := []) X hR hS (zcX5_simulate l D cy ad ba O S x1 x3 hl0 _ hq_2) (cwV 2 X.2.2.2.2.2.1 gL_trySimulate_X5_simulate rfl rfl rfl kdX5_simulate ⟨(Nat.le_of_ble_eq_true rfl), (Nat.le_of_ble_eq_true rfl)⟩) (by decide) rfl rfl rfl rfl hl.1 (Nat.le_of_ble_eq_true rfl) ⟨(Nat.le_of_ble_eq_true rfl), (Nat.le_of_ble_eq_true rfl)⟩ dL_trySimulate_3 (fun ce q9 H locs hR hS h3 h4 h5 => ?_)
      refine te_catch (c0 := 1) X htab [] [] (0, 6, 7, 13) rfl (by decide) (by decide) (fun z hz => nomatch hz) (by decide) (by decide) wL_trySimulate_k13 h3 h4 h5 ?_
      refine lv_astore (lv' := [(4, .ref q9), (0, .ref (ad 360)), (1, .long x1), (3, .int x3)]) hx hb dL_trySimulate_7 hl (by decide) rfl (fun ls hl => ?_)
      refine lv_ldc (v := (-99002 : Int32)) hx hb hown (X.2.2.2.2.2.1 _ wL_trySimulate_15) dL_trySimulate_9 ?_
      exact eTx X hR hS (Option.some.inj hf) (Nat.le_of_ble_eq_true rfl) (Nat.le_of_ble_eq_true rfl) dL_trySimulate_11
    replace hf := ite_f c_4 hf
    exact nomatch hf
  · refine kVqr (id := 360) (As := [.long x1, .int x3]) (rest := []) X hR hS (zcX5_simulate l D cy ad ba O S x1 x3 hl0 _ hq_2) (cwV 2 X.2.2.2.2.2.1 gL_trySimulate_X5_simulate rfl rfl rfl kdX5_simulate ⟨(Nat.le_of_ble_eq_true rfl), (Nat.le_of_ble_eq_true rfl)⟩) (by decide) rfl rfl rfl rfl hl.1 (Nat.le_of_ble_eq_true rfl) ⟨(Nat.le_of_ble_eq_true rfl), (Nat.le_of_ble_eq_true rfl)⟩ dL_trySimulate_3 (fun H locs hR hS => ?_)
    exact eTx X hR hS (Option.some.inj hf) (Nat.le_of_ble_eq_true rfl) (Nat.le_of_ble_eq_true rfl) dL_trySimulate_6
theorem zcL_trySimulate (l : Launch) (D : va_G) (cy : Nat → ClassId) (ad : Nat → Nat) (ba : Nat → Prop) (O : Int64) (S : teS) (x1 : Int64) (x3 : Int32) (hl0 : l.stackTraces = false) (res : (Int32 × teS)) (hf : fL_trySimulate x1 x3 S = some res) : lT l yL_trySimulate wsL_trySimulate rmL_trySimulate 1 6 D cy ad ba O S [.ref (ad 360), .long x1, .int x3] res :=
  te_ofh (hh := [(0, 6, 7, 13)]) (by decide) rfl (Nat.le_of_ble_eq_true rfl) (fun p e s m below meth c ls X htab hR hS hl => bL_trySimulate_0 (S := S) (x1 := x1) (x3 := x3) X htab hl0 _ _ _ hR hS hl hf)
abbrev rmL_trySave : Room := { frames := 8, cells := 1, slots := 6, locals := 131 }
theorem kdL_trySave : yL_trySave.cls = RL ∧ yL_trySave.cls ≠ "java/lang/invoke/MethodHandle" ∧ yL_trySave.cls ≠ "java/lang/invoke/VarHandle" ∧ (parseMethodDescriptor yL_trySave.desc).map (fun d => d.parameters.length) = some 2 := by decide +kernel
theorem wL_trySave_32 : Cond.constant RL 32 (-99001) ∈ wsL_trySave := by decide +kernel
theorem wL_trySave_k30 : Cond.classLink RL 30 "java/lang/IndexOutOfBoundsException" ∈ wsL_trySave := by decide +kernel
set_option maxRecDepth 100000 in
set_option maxHeartbeats 4000000 in
theorem bL_trySave_0 {p : Program} {l : Launch} {e : Env} {s : State} {m : MethodId} {args : Array Value} {below : List Frame} {meth : Method} {c : Code} {D : va_G} {cy : Nat → ClassId} {ad : Nat → Nat} {ba : Nat → Prop} {O : Int64} {S : teS}  {x1 : Int32} {res : (Int32 × teS)} (X : teC wsL_trySave RL cL_trySave 3 (some .int) D cy ba p s m args meth c) (htab : c.exceptionTable.toList = tableOf [(0, 5, 6, 30)]) (hl0 : l.stackTraces = false) (H : Heap) (locs : List Loc) (ls : Array Slot) (hR : teR D cy ad ba O S H) (hS : va_S (teA ba) s.heap H locs) (hl : lv_has ls 3 [(0, .ref (ad 360)), (1, .int x1)]) (hf : fL_trySave x1 S = some res) : W p l e (headSpec wsL_trySave rmL_trySave).room s m args below meth c H locs 0 0 (vx_MQ below (va_Qi (fun a (u : teS) => a = res.1 ∧ u = res.2) (fun u t => teR D cy ad ba O u t.heap) (teA ba)) (vx_X (fun _ : Unit => False) (fun _ _ _ => True) (teA ba)) args s 1 6 (teA ba)) (F0 m 0 ls []) := by
  have hx := X.1
  have hb := X.2.1
  have hown := X.2.2.2.2.1
  unfold fL_trySave at hf
  refine lv_aload_n hx hb dL_trySave_0 rfl (lv_at hl 0 rfl) ?_
  refine lv_iload_n hx hb dL_trySave_1 rfl (lv_at hl 1 rfl) ?_
  rcases bxw_some hf with ⟨e_1, hq_2, hf⟩ | ⟨r_3, S1, hq_2, hf⟩
  · by_cases c_4 : e_1 = 3
    · subst c_4
      replace hf := ite_t rfl hf
      refine kVql (id := 360) (As := [.int x1]) (rest := []) X hR hS (zcX5_save l D cy ad ba O S x1 hl0 _ hq_2) (cwV 1 X.2.2.2.2.2.1 gL_trySave_X5_save rfl rfl rfl kdX5_save ⟨(Nat.le_of_ble_eq_true rfl), (Nat.le_of_ble_eq_true rfl)⟩) (by decide) rfl rfl rfl rfl hl.1 (Nat.le_of_ble_eq_true rfl) ⟨(Nat.le_of_ble_eq_true rfl), (Nat.le_of_ble_eq_true rfl)⟩ dL_trySave_2 (fun ce q9 H locs hR hS h3 h4 h5 => ?_)
      refine te_catch (c0 := 3) X htab [] [] (0, 5, 6, 30) rfl (by decide) (by decide) (fun z hz => nomatch hz) (by decide) (by decide) wL_trySave_k30 h3 h4 h5 ?_
      refine lv_astore_n (lv' := [(2, .ref q9), (0, .ref (ad 360)), (1, .int x1)]) hx hb dL_trySave_6 rfl hl (by decide) rfl (fun ls hl => ?_)
      refine lv_ldc (v := (-99001 : Int32)) hx hb hown (X.2.2.2.2.2.1 _ wL_trySave_32) dL_trySave_7 ?_
      exact eTx X hR hS (Option.some.inj hf) (Nat.le_of_ble_eq_true rfl) (Nat.le_of_ble_eq_true rfl) dL_trySave_9
    replace hf := ite_f c_4 hf
    exact nomatch hf
  · refine kVqr (id := 360) (As := [.int x1]) (rest := []) X hR hS (zcX5_save l D cy ad ba O S x1 hl0 _ hq_2) (cwV 1 X.2.2.2.2.2.1 gL_trySave_X5_save rfl rfl rfl kdX5_save ⟨(Nat.le_of_ble_eq_true rfl), (Nat.le_of_ble_eq_true rfl)⟩) (by decide) rfl rfl rfl rfl hl.1 (Nat.le_of_ble_eq_true rfl) ⟨(Nat.le_of_ble_eq_true rfl), (Nat.le_of_ble_eq_true rfl)⟩ dL_trySave_2 (fun H locs hR hS => ?_)
    exact eTx X hR hS (Option.some.inj hf) (Nat.le_of_ble_eq_true rfl) (Nat.le_of_ble_eq_true rfl) dL_trySave_5
theorem zcL_trySave (l : Launch) (D : va_G) (cy : Nat → ClassId) (ad : Nat → Nat) (ba : Nat → Prop) (O : Int64) (S : teS) (x1 : Int32) (hl0 : l.stackTraces = false) (res : (Int32 × teS)) (hf : fL_trySave x1 S = some res) : lT l yL_trySave wsL_trySave rmL_trySave 1 6 D cy ad ba O S [.ref (ad 360), .int x1] res :=
  te_ofh (hh := [(0, 5, 6, 30)]) (by decide) rfl (Nat.le_of_ble_eq_true rfl) (fun p e s m below meth c ls X htab hR hS hl => bL_trySave_0 (S := S) (x1 := x1) X htab hl0 _ _ _ hR hS hl hf)
abbrev rmL_tryRestore : Room := { frames := 8, cells := 1, slots := 6, locals := 131 }
theorem kdL_tryRestore : yL_tryRestore.cls = RL ∧ yL_tryRestore.cls ≠ "java/lang/invoke/MethodHandle" ∧ yL_tryRestore.cls ≠ "java/lang/invoke/VarHandle" ∧ (parseMethodDescriptor yL_tryRestore.desc).map (fun d => d.parameters.length) = some 2 := by decide +kernel
theorem wL_tryRestore_32 : Cond.constant RL 32 (-99001) ∈ wsL_tryRestore := by decide +kernel
theorem wL_tryRestore_k30 : Cond.classLink RL 30 "java/lang/IndexOutOfBoundsException" ∈ wsL_tryRestore := by decide +kernel
theorem wL_tryRestore_18 : Cond.constant RL 18 (-99003) ∈ wsL_tryRestore := by decide +kernel
theorem wL_tryRestore_k16 : Cond.classLink RL 16 "java/lang/IllegalStateException" ∈ wsL_tryRestore := by decide +kernel
set_option maxRecDepth 100000 in
set_option maxHeartbeats 4000000 in
theorem bL_tryRestore_0 {p : Program} {l : Launch} {e : Env} {s : State} {m : MethodId} {args : Array Value} {below : List Frame} {meth : Method} {c : Code} {D : va_G} {cy : Nat → ClassId} {ad : Nat → Nat} {ba : Nat → Prop} {O : Int64} {S : teS}  {x1 : Int32} {res : (Int32 × teS)} (X : teC wsL_tryRestore RL cL_tryRestore 3 (some .int) D cy ba p s m args meth c) (htab : c.exceptionTable.toList = tableOf [(0, 5, 6, 30), (0, 5, 10, 16)]) (hl0 : l.stackTraces = false) (H : Heap) (locs : List Loc) (ls : Array Slot) (hR : teR D cy ad ba O S H) (hS : va_S (teA ba) s.heap H locs) (hl : lv_has ls 3 [(0, .ref (ad 360)), (1, .int x1)]) (hf : fL_tryRestore x1 S = some res) : W p l e (headSpec wsL_tryRestore rmL_tryRestore).room s m args below meth c H locs 0 0 (vx_MQ below (va_Qi (fun a (u : teS) => a = res.1 ∧ u = res.2) (fun u t => teR D cy ad ba O u t.heap) (teA ba)) (vx_X (fun _ : Unit => False) (fun _ _ _ => True) (teA ba)) args s 1 6 (teA ba)) (F0 m 0 ls []) := by
  have hx := X.1
  have hb := X.2.1
  have hown := X.2.2.2.2.1
  unfold fL_tryRestore at hf
  refine lv_aload_n hx hb dL_tryRestore_0 rfl (lv_at hl 0 rfl) ?_
  refine lv_iload_n hx hb dL_tryRestore_1 rfl (lv_at hl 1 rfl) ?_
  rcases bxw_some hf with ⟨e_1, hq_2, hf⟩ | ⟨r_3, S1, hq_2, hf⟩
  · by_cases c_4 : e_1 = 3
    · subst c_4
      replace hf := ite_t rfl hf
      refine kVql (id := 360) (As := [.int x1]) (rest := []) X hR hS (zcX5_restore l D cy ad ba O S x1 hl0 _ hq_2) (cwV 1 X.2.2.2.2.2.1 gL_tryRestore_X5_restore rfl rfl rfl kdX5_restore ⟨(Nat.le_of_ble_eq_true rfl), (Nat.le_of_ble_eq_true rfl)⟩) (by decide) rfl rfl rfl rfl hl.1 (Nat.le_of_ble_eq_true rfl) ⟨(Nat.le_of_ble_eq_true rfl), (Nat.le_of_ble_eq_true rfl)⟩ dL_tryRestore_2 (fun ce q9 H locs hR hS h3 h4 h5 => ?_)
      refine te_catch (c0 := 3) X htab [] [(0, 5, 10, 16)] (0, 5, 6, 30) rfl (by decide) (by decide) (fun z hz => nomatch hz) (by decide) (by decide) wL_tryRestore_k30 h3 h4 h5 ?_
      refine lv_astore_n (lv' := [(2, .ref q9), (0, .ref (ad 360)), (1, .int x1)]) hx hb dL_tryRestore_6 rfl hl (by decide) rfl (fun ls hl => ?_)
      refine lv_ldc (v := (-99001 : Int32)) hx hb hown (X.2.2.2.2.2.1 _ wL_tryRestore_32) dL_tryRestore_7 ?_
      exact eTx X hR hS (Option.some.inj hf) (Nat.le_of_ble_eq_true rfl) (Nat.le_of_ble_eq_true rfl) dL_tryRestore_9
    replace hf := ite_f c_4 hf
    by_cases c_5 : e_1 = 2
    · subst c_5
      replace hf := ite_t rfl hf
      refine kVql (id := 360) (As := [.int x1]) (rest := []) X hR hS (zcX5_restore l D cy ad ba O S x1 hl0 _ hq_2) (cwV 1 X.2.2.2.2.2.1 gL_tryRestore_X5_restore rfl rfl rfl kdX5_restore ⟨(Nat.le_of_ble_eq_true rfl), (Nat.le_of_ble_eq_true rfl)⟩) (by decide) rfl rfl rfl rfl hl.1 (Nat.le_of_ble_eq_true rfl) ⟨(Nat.le_of_ble_eq_true rfl), (Nat.le_of_ble_eq_true rfl)⟩ dL_tryRestore_2 (fun ce q9 H locs hR hS h3 h4 h5 => ?_)
      refine te_catch (c0 := 2) X htab [(0, 5, 6, 30)] [] (0, 5, 10, 16) rfl (by decide) (by decide) (List.forall_mem_cons.mpr ⟨⟨by decide, 3, by decide, by decide, by decide, wL_tryRestore_k30⟩, fun z hz => nomatch hz⟩) (by decide) (by decide) wL_tryRestore_k16 h3 h4 h5 ?_
      refine lv_astore_n (lv' := [(2, .ref q9), (0, .ref (ad 360)), (1, .int x1)]) hx hb dL_tryRestore_10 rfl hl (by decide) rfl (fun ls hl => ?_)
      refine lv_ldc (v := (-99003 : Int32)) hx hb hown (X.2.2.2.2.2.1 _ wL_tryRestore_18) dL_tryRestore_11 ?_
      exact eTx X hR hS (Option.some.inj hf) (Nat.le_of_ble_eq_true rfl) (Nat.le_of_ble_eq_true rfl) dL_tryRestore_13
    replace hf := ite_f c_5 hf
    exact nomatch hf
  · refine kVqr (id := 360) (As := [.int x1]) (rest := []) X hR hS (zcX5_restore l D cy ad ba O S x1 hl0 _ hq_2) (cwV 1 X.2.2.2.2.2.1 gL_tryRestore_X5_restore rfl rfl rfl kdX5_restore ⟨(Nat.le_of_ble_eq_true rfl), (Nat.le_of_ble_eq_true rfl)⟩) (by decide) rfl rfl rfl rfl hl.1 (Nat.le_of_ble_eq_true rfl) ⟨(Nat.le_of_ble_eq_true rfl), (Nat.le_of_ble_eq_true rfl)⟩ dL_tryRestore_2 (fun H locs hR hS => ?_)
    exact eTx X hR hS (Option.some.inj hf) (Nat.le_of_ble_eq_true rfl) (Nat.le_of_ble_eq_true rfl) dL_tryRestore_5
theorem zcL_tryRestore (l : Launch) (D : va_G) (cy : Nat → ClassId) (ad : Nat → Nat) (ba : Nat → Prop) (O : Int64) (S : teS) (x1 : Int32) (hl0 : l.stackTraces = false) (res : (Int32 × teS)) (hf : fL_tryRestore x1 S = some res) : lT l yL_tryRestore wsL_tryRestore rmL_tryRestore 1 6 D cy ad ba O S [.ref (ad 360), .int x1] res :=
  te_ofh (hh := [(0, 5, 6, 30), (0, 5, 10, 16)]) (by decide) rfl (Nat.le_of_ble_eq_true rfl) (fun p e s m below meth c ls X htab hR hS hl => bL_tryRestore_0 (S := S) (x1 := x1) X htab hl0 _ _ _ hR hS hl hf)
