abbrev rmL_put : Room := { frames := 9, cells := 2, slots := 12, locals := 155 }
theorem kdL_put : yL_put.cls = RL ∧ yL_put.cls ≠ "java/lang/invoke/MethodHandle" ∧ yL_put.cls ≠ "java/lang/invoke/VarHandle" ∧ (parseMethodDescriptor yL_put.desc).map (fun d => d.parameters.length) = some 3 := by decide +kernel
set_option maxRecDepth 100000 in
set_option maxHeartbeats 4000000 in
theorem bL_put_0 {p : Program} {l : Launch} {e : Env} {s : State} {m : MethodId} {args : Array Value} {below : List Frame} {meth : Method} {c : Code} {D : va_G} {cy : Nat → ClassId} {ad0 : Nat → Nat} {ba0 : Nat → Prop} {ad1 : Nat → Nat} {ba1 : Nat → Prop} {x2 : Int32} {res : (Int32 × (aS × aS))} (X : teC wsL_put RL cL_put 3 (some .boolean) D cy (fun q => ba0 q ∨ ba1 q) p s m args meth c) (hl0 : l.stackTraces = false) (hdj : ∀ q, ba0 q → ¬ ba1 q) : ∀ (z0 : aS) (z1 : aS) (H : Heap) (locs : List Loc) (ls : Array Slot) (ce sl : Nat), ce + (2) ≤ 2 → sl + (12) ≤ 12 → aR D cy ad0 ba0 z0 H → aR D cy ad1 ba1 z1 H → va_S (fun q => ba0 q ∨ ba1 q) s.heap H locs → lv_has ls 3 [(0, .ref (ad0 360)), (1, .ref (ad1 360)), (2, .int x2)] → hL_put x2 z0 z1 = some res → W p l e (headSpec wsL_put rmL_put).room s m args below meth c H locs ce sl (MQ below (va_Qi (fun a (_ : Unit) => a = res.1) (fun _ t => (fun H => aR D cy ad0 ba0 res.2.1 H ∧ aR D cy ad1 ba1 res.2.2 H) t.heap) (fun q => ba0 q ∨ ba1 q)) args s 2 12 (fun q => ba0 q ∨ ba1 q)) (F0 m 0 ls []) := by
  have hx := X.1
  have hb := X.2.1
  have hown := X.2.2.2.2.1
  intro z0 z1 H locs ls ce sl hb1_ hb2_ hW0 hW1 hS hl hf
  unfold hL_put at hf
  refine lv_aload_n hx hb dL_put_0 rfl (lv_at hl 0 rfl) ?_
  refine lv_iload_n hx hb dL_put_1 rfl (lv_at hl 2 rfl) ?_
  obtain ⟨r_1, z0_1, hq_2, hf⟩ := bd2_some hf
  refine kA (As := [.ref (ad0 360), .int x2]) (rest := []) X (fun q h => Or.inl h) hW0 hS (tI_tryAppend l D cy ad0 ba0 hl0 hq_2) (vx_cwSW (hh := [(0, 5, 6, 13), (0, 5, 10, 16)]) 2 X.2.2.2.2.2.1 gL_put_L_tryAppend rfl rfl rfl kdL_tryAppend.2 ⟨(Nat.le_of_ble_eq_true rfl), (Nat.le_of_ble_eq_true rfl)⟩) rfl rfl hl.1 (Nat.le_of_ble_eq_true rfl) ⟨by show _ ≤ 2; omega, by show _ ≤ 12; omega⟩ dL_put_2 (fun H locs hW0 hS hz hk => ?_)
  replace hW1 := aR_kept hW1 (fun q h1 h2 => hk q h1 (fun h => hdj q h h2))
  clear hz hk
  refine lv_if_le (tgt := 20) hx hb dL_put_5 (by decide) (fun c_3 => ?_) (fun c_3 => ?_)
  · replace hf := ite_t c_3 hf
    refine lv_iconst (v := (0 : Int32)) hx hb dL_put_20 (by decide) ?_
    cases Option.some.inj hf
    exact eKz (v := (0 : Int32)) X (Wd1 := (fun H => aR D cy ad0 ba0 z0_1 H ∧ aR D cy ad1 ba1 z1 H)) ⟨hW0, hW1⟩ hS (by decide) rfl (by omega) (by omega) dL_put_21
  · replace hf := ite_f c_3 hf
    refine lv_aload_n hx hb dL_put_8 rfl (lv_at hl 1 rfl) ?_
    refine lv_iload_n hx hb dL_put_9 rfl (lv_at hl 2 rfl) ?_
    obtain ⟨r_4, z1_2, hq_5, hf⟩ := bd2_some hf
    refine kA (As := [.ref (ad1 360), .int x2]) (rest := []) X (fun q h => Or.inr h) hW1 hS (tI_tryAppend l D cy ad1 ba1 hl0 hq_5) (vx_cwSW (hh := [(0, 5, 6, 13), (0, 5, 10, 16)]) 2 X.2.2.2.2.2.1 gL_put_L_tryAppend rfl rfl rfl kdL_tryAppend.2 ⟨(Nat.le_of_ble_eq_true rfl), (Nat.le_of_ble_eq_true rfl)⟩) rfl rfl hl.1 (Nat.le_of_ble_eq_true rfl) ⟨by show _ ≤ 2; omega, by show _ ≤ 12; omega⟩ dL_put_10 (fun H locs hW1 hS hz hk => ?_)
    replace hW0 := aR_kept hW0 (fun q h1 h2 => hk q h1 (hdj q h2))
    clear hz hk
    refine lv_if_le (tgt := 20) hx hb dL_put_13 (by decide) (fun c_6 => ?_) (fun c_6 => ?_)
    · replace hf := ite_t c_6 hf
      refine lv_iconst (v := (0 : Int32)) hx hb dL_put_20 (by decide) ?_
      cases Option.some.inj hf
      exact eKz (v := (0 : Int32)) X (Wd1 := (fun H => aR D cy ad0 ba0 z0_1 H ∧ aR D cy ad1 ba1 z1_2 H)) ⟨hW0, hW1⟩ hS (by decide) rfl (by omega) (by omega) dL_put_21
    · replace hf := ite_f c_6 hf
      refine lv_iconst (v := (1 : Int32)) hx hb dL_put_16 (by decide) ?_
      refine lv_goto (tgt := 21) hx hb dL_put_17 (by decide) ?_
      cases Option.some.inj hf
      exact eKz (v := (1 : Int32)) X (Wd1 := (fun H => aR D cy ad0 ba0 z0_1 H ∧ aR D cy ad1 ba1 z1_2 H)) ⟨hW0, hW1⟩ hS (by decide) rfl (by omega) (by omega) dL_put_21
theorem zcL_put (l : Launch) (D : va_G) (cy : Nat → ClassId) (ad0 : Nat → Nat) (ba0 : Nat → Prop) (ad1 : Nat → Nat) (ba1 : Nat → Prop) (hl0 : l.stackTraces = false) (hdj : ∀ q, ba0 q → ¬ ba1 q) {z0 : aS} {z1 : aS} {x2 : Int32} (res : (Int32 × (aS × aS))) (hf : hL_put x2 z0 z1 = some res) : aJ l yL_put wsL_put rmL_put 2 12 D cy (fun q => ba0 q ∨ ba1 q) (fun H => aR D cy ad0 ba0 z0 H ∧ aR D cy ad1 ba1 z1 H) false 0 0 (fun _ => 0) [.ref (ad0 360), .ref (ad1 360), .int x2] res.1 (fun H => aR D cy ad0 ba0 res.2.1 H ∧ aR D cy ad1 ba1 res.2.2 H) :=
  a_of (by decide) rfl (Nat.le_of_ble_eq_true rfl) (fun p e s m below meth c ls X hW hX hS hl => bL_put_0 (x2 := x2) X hl0 hdj z0 z1 _ _ _ 0 0 (Nat.le_of_ble_eq_true rfl) (Nat.le_of_ble_eq_true rfl) hW.1 hW.2 hS hl hf)
