abbrev rmL_number : Room := { frames := 0, cells := 0, slots := 0, locals := 0 }
theorem kdL_number : yL_number.cls = RL ∧ yL_number.cls ≠ "java/lang/invoke/MethodHandle" ∧ yL_number.cls ≠ "java/lang/invoke/VarHandle" ∧ (parseMethodDescriptor yL_number.desc).map (fun d => d.parameters.length) = some 2 := by decide +kernel
theorem wL_number_98 : Cond.constant RL 98 (15516611) ∈ wsL_number := by decide +kernel
theorem wL_number_99 : Cond.constant RL 99 (2147483647) ∈ wsL_number := by decide +kernel
set_option maxRecDepth 100000 in
set_option maxHeartbeats 4000000 in
theorem bL_number_0 {p : Program} {l : Launch} {e : Env} {s : State} {m : MethodId} {args : Array Value} {below : List Frame} {meth : Method} {c : Code} {D : va_G} {cy : Nat → ClassId} {b : Nat} {L : Nat} {xs : Nat → Int32} {x1 : Int32} {res : Int32} (X : teC wsL_number RL cL_number 2 (some .int) D cy (fun _ => False) p s m args meth c) (hl0 : l.stackTraces = false) (hX : aX true b L xs s s.heap) (hbA : ¬ (fun _ => False) b) : ∀ (H : Heap) (locs : List Loc) (ls : Array Slot) (ce sl : Nat), ce + (0) ≤ 0 → sl + (0) ≤ 0 → va_S (fun _ => False) s.heap H locs → lv_has ls 2 [(0, .ref b), (1, .int x1)] → hL_number L xs x1 = some res → W p l e (headSpec wsL_number rmL_number).room s m args below meth c H locs ce sl (MQ below (va_Qi (fun a (_ : Unit) => a = res) (fun _ t => (fun _ => True) t.heap) (fun _ => False)) args s 0 0 (fun _ => False)) (F0 m 0 ls []) := by
  have hx := X.1
  have hb := X.2.1
  have hown := X.2.2.2.2.1
  intro H locs ls ce sl hb1_ hb2_ hS hl hf
  unfold hL_number at hf
  refine lv_iload_n hx hb dL_number_0 rfl (lv_at hl 1 rfl) ?_
  refine lv_aload_n hx hb dL_number_1 rfl (lv_at hl 0 rfl) ?_
  refine aX_len X hX hbA hS dL_number_2 ?_
  refine lv_icmp_ge (tgt := 12) hx hb dL_number_3 (by decide) (fun c_1 => ?_) (fun c_1 => ?_)
  · replace hf := ite_t c_1 hf
    refine lv_ldc (v := (15516611 : Int32)) hx hb hown (X.2.2.2.2.2.1 _ wL_number_98) dL_number_12 ?_
    refine lv_iload_n hx hb dL_number_14 rfl (lv_at hl 1 rfl) ?_
    refine lv_iconst (v := (5 : Int32)) hx hb dL_number_15 (by decide) ?_
    refine lv_iadd hx hb dL_number_16 ?_
    refine lv_imul hx hb dL_number_17 ?_
    refine lv_sipush (v := (10091 : Int32)) hx hb dL_number_18 (by decide) ?_
    refine lv_iadd hx hb dL_number_21 ?_
    refine lv_ldc (v := (2147483647 : Int32)) hx hb hown (X.2.2.2.2.2.1 _ wL_number_99) dL_number_22 ?_
    refine lv_iand hx hb dL_number_24 ?_
    cases Option.some.inj hf
    exact eK (v := ((((15516611 : Int32) * (x1 + (5 : Int32))) + (10091 : Int32)) &&& (2147483647 : Int32))) X (Wd1 := fun _ => True) trivial hS rfl (by omega) (by omega) dL_number_25
  · replace hf := ite_f c_1 hf
    refine lv_aload_n hx hb dL_number_6 rfl (lv_at hl 0 rfl) ?_
    refine lv_iload_n hx hb dL_number_7 rfl (lv_at hl 1 rfl) ?_
    obtain ⟨h_2, hf⟩ := chk_some hf
    refine aX_ld X hX hbA hS h_2 dL_number_8 ?_
    refine lv_goto (tgt := 22) hx hb dL_number_9 (by decide) ?_
    refine lv_ldc (v := (2147483647 : Int32)) hx hb hown (X.2.2.2.2.2.1 _ wL_number_99) dL_number_22 ?_
    refine lv_iand hx hb dL_number_24 ?_
    cases Option.some.inj hf
    exact eK (v := ((xs x1.toNatClampNeg) &&& (2147483647 : Int32))) X (Wd1 := fun _ => True) trivial hS rfl (by omega) (by omega) dL_number_25
theorem zcL_number (l : Launch) (D : va_G) (cy : Nat → ClassId) (hl0 : l.stackTraces = false) (b L : Nat) (xs : Nat → Int32) {x1 : Int32} (res : Int32) (hf : hL_number L xs x1 = some res) : aJ l yL_number wsL_number rmL_number 0 0 D cy (fun _ => False) (fun _ => True) true b L xs [.ref b, .int x1] res (fun _ => True) :=
  a_of (by decide) rfl (Nat.le_of_ble_eq_true rfl) (fun p e s m below meth c ls X hW hX hS hl => bL_number_0 (L := L) (xs := xs) (x1 := x1) X hl0 hX (fun h => h) _ _ _ 0 0 (Nat.le_of_ble_eq_true rfl) (Nat.le_of_ble_eq_true rfl) hS hl hf)
