abbrev rmL_told : Room := { frames := 10, cells := 193, slots := 1158, locals := 177 }
theorem kdL_told : yL_told.cls = RL ∧ yL_told.cls ≠ "java/lang/invoke/MethodHandle" ∧ yL_told.cls ≠ "java/lang/invoke/VarHandle" ∧ (parseMethodDescriptor yL_told.desc).map (fun d => d.parameters.length) = some 4 := by decide +kernel
theorem wL_told_18 : Cond.constant RL 18 (-99003) ∈ wsL_told := by decide +kernel
theorem wL_told_120 : Cond.constant RL 120 (262144) ∈ wsL_told := by decide +kernel
theorem wL_told_121 : Cond.constant RL 121 (4194304) ∈ wsL_told := by decide +kernel
set_option maxRecDepth 100000 in
set_option maxHeartbeats 4000000 in
theorem bL_told_259 {p : Program} {l : Launch} {e : Env} {s : State} {m : MethodId} {args : Array Value} {below : List Frame} {meth : Method} {c : Code} {D : va_G} {cy : Nat → ClassId} {ad0 : Nat → Nat} {ba0 : Nat → Prop} {ad1 : Nat → Nat} {ba1 : Nat → Prop} {b : Nat} {L : Nat} {xs : Nat → Int32} {x3 : Int32} {res : (Int32 × (aS × aS))} (X : teC wsL_told RL cL_told 10 (some .boolean) D cy (fun q => ba0 q ∨ ba1 q) p s m args meth c) (hl0 : l.stackTraces = false) (hdj : ∀ q, ba0 q → ¬ ba1 q) (hX : aX true b L xs s s.heap) (hbA : ¬ (fun q => ba0 q ∨ ba1 q) b) {n43 : Nat} {q43 : aS → aS → Int32 → Int32 → Int32 → Option (Int32 × (aS × aS))} (hq43 : ∀ (z0 : aS) (z1 : aS) (v4 : Int32) (v5 : Int32) (v6 : Int32) (H : Heap) (locs : List Loc) (ls : Array Slot) (ce sl : Nat), ce + (18 * n43 + 11) ≤ 193 → sl + (108 * n43 + 66) ≤ 1158 → aR D cy ad0 ba0 z0 H → aR D cy ad1 ba1 z1 H → va_S (fun q => ba0 q ∨ ba1 q) s.heap H locs → lv_has ls 10 [(0, .ref (ad0 360)), (1, .ref (ad1 360)), (2, .ref b), (3, .int x3), (4, .int v4), (5, .int v5), (6, .int v6)] → q43 z0 z1 v4 v5 v6 = some res → W p l e (headSpec wsL_told rmL_told).room s m args below meth c H locs ce sl (MQ below (va_Qi (fun a (_ : Unit) => a = res.1) (fun _ t => (fun H => aR D cy ad0 ba0 res.2.1 H ∧ aR D cy ad1 ba1 res.2.2 H) t.heap) (fun q => ba0 q ∨ ba1 q)) args s 193 1158 (fun q => ba0 q ∨ ba1 q)) (F0 m 43 ls [])) : ∀ (z0 : aS) (z1 : aS) (v4 : Int32) (v6 : Int32) (H : Heap) (locs : List Loc) (ls : Array Slot) (ce sl : Nat), ce + (18 * n43 + 11) ≤ 193 → sl + (108 * n43 + 66) ≤ 1158 → aR D cy ad0 ba0 z0 H → aR D cy ad1 ba1 z1 H → va_S (fun q => ba0 q ∨ ba1 q) s.heap H locs → lv_has ls 10 [(0, .ref (ad0 360)), (1, .ref (ad1 360)), (2, .ref b), (3, .int x3), (4, .int v4), (6, .int v6)] → hL_told_259 L xs x3 q43 z0 z1 v4 v6 = some res → W p l e (headSpec wsL_told rmL_told).room s m args below meth c H locs ce sl (MQ below (va_Qi (fun a (_ : Unit) => a = res.1) (fun _ t => (fun H => aR D cy ad0 ba0 res.2.1 H ∧ aR D cy ad1 ba1 res.2.2 H) t.heap) (fun q => ba0 q ∨ ba1 q)) args s 193 1158 (fun q => ba0 q ∨ ba1 q)) (F0 m 259 ls []) := by
  have hx := X.1
  have hb := X.2.1
  have hown := X.2.2.2.2.1
  intro z0 z1 v4 v6 H locs ls ce sl hb1_ hb2_ hW0 hW1 hS hl hf
  unfold hL_told_259 at hf
  refine lv_iconst (v := (0 : Int32)) hx hb dL_told_259 (by decide) ?_
  refine lv_istore (lv' := [(5, .int (0 : Int32)), (0, .ref (ad0 360)), (1, .ref (ad1 360)), (2, .ref b), (3, .int x3), (4, .int v4), (6, .int v6)]) hx hb dL_told_260 hl (by decide) rfl (fun ls hl => ?_)
  refine lv_iinc (v := (v6 + (1 : Int32))) (lv' := [(6, .int (v6 + (1 : Int32))), (5, .int (0 : Int32)), (0, .ref (ad0 360)), (1, .ref (ad1 360)), (2, .ref b), (3, .int x3), (4, .int v4)]) hx hb dL_told_262 hl (k := 6) rfl rfl (by decide) rfl (fun ls hl => ?_)
  refine lv_goto (tgt := 43) hx hb dL_told_265 (by decide) ?_
  exact hq43 z0 z1 v4 (0 : Int32) (v6 + (1 : Int32)) _ _ _ _ _ (by omega) (by omega) hW0 hW1 hS (lv_sub hl [2, 3, 4, 5, 6, 1, 0] rfl) hf
set_option maxRecDepth 100000 in
set_option maxHeartbeats 4000000 in
theorem bL_told_187 {p : Program} {l : Launch} {e : Env} {s : State} {m : MethodId} {args : Array Value} {below : List Frame} {meth : Method} {c : Code} {D : va_G} {cy : Nat → ClassId} {ad0 : Nat → Nat} {ba0 : Nat → Prop} {ad1 : Nat → Nat} {ba1 : Nat → Prop} {b : Nat} {L : Nat} {xs : Nat → Int32} {x3 : Int32} {res : (Int32 × (aS × aS))} (X : teC wsL_told RL cL_told 10 (some .boolean) D cy (fun q => ba0 q ∨ ba1 q) p s m args meth c) (hl0 : l.stackTraces = false) (hdj : ∀ q, ba0 q → ¬ ba1 q) (hX : aX true b L xs s s.heap) (hbA : ¬ (fun q => ba0 q ∨ ba1 q) b) {n43 : Nat} {q43 : aS → aS → Int32 → Int32 → Int32 → Option (Int32 × (aS × aS))} (hq43 : ∀ (z0 : aS) (z1 : aS) (v4 : Int32) (v5 : Int32) (v6 : Int32) (H : Heap) (locs : List Loc) (ls : Array Slot) (ce sl : Nat), ce + (18 * n43 + 11) ≤ 193 → sl + (108 * n43 + 66) ≤ 1158 → aR D cy ad0 ba0 z0 H → aR D cy ad1 ba1 z1 H → va_S (fun q => ba0 q ∨ ba1 q) s.heap H locs → lv_has ls 10 [(0, .ref (ad0 360)), (1, .ref (ad1 360)), (2, .ref b), (3, .int x3), (4, .int v4), (5, .int v5), (6, .int v6)] → q43 z0 z1 v4 v5 v6 = some res → W p l e (headSpec wsL_told rmL_told).room s m args below meth c H locs ce sl (MQ below (va_Qi (fun a (_ : Unit) => a = res.1) (fun _ t => (fun H => aR D cy ad0 ba0 res.2.1 H ∧ aR D cy ad1 ba1 res.2.2 H) t.heap) (fun q => ba0 q ∨ ba1 q)) args s 193 1158 (fun q => ba0 q ∨ ba1 q)) (F0 m 43 ls [])) : ∀ (z0 : aS) (z1 : aS) (v4 : Int32) (v5 : Int32) (v6 : Int32) (v7 : Int32) (H : Heap) (locs : List Loc) (ls : Array Slot) (ce sl : Nat), ce + (18 * n43 + 15) ≤ 193 → sl + (108 * n43 + 90) ≤ 1158 → aR D cy ad0 ba0 z0 H → aR D cy ad1 ba1 z1 H → va_S (fun q => ba0 q ∨ ba1 q) s.heap H locs → lv_has ls 10 [(0, .ref (ad0 360)), (1, .ref (ad1 360)), (2, .ref b), (3, .int x3), (4, .int v4), (5, .int v5), (6, .int v6), (7, .int v7)] → hL_told_187 L xs x3 q43 z0 z1 v4 v5 v6 v7 = some res → W p l e (headSpec wsL_told rmL_told).room s m args below meth c H locs ce sl (MQ below (va_Qi (fun a (_ : Unit) => a = res.1) (fun _ t => (fun H => aR D cy ad0 ba0 res.2.1 H ∧ aR D cy ad1 ba1 res.2.2 H) t.heap) (fun q => ba0 q ∨ ba1 q)) args s 193 1158 (fun q => ba0 q ∨ ba1 q)) (F0 m 187 ls []) := by
  have hx := X.1
  have hb := X.2.1
  have hown := X.2.2.2.2.1
  intro z0 z1 v4 v5 v6 v7 H locs ls ce sl hb1_ hb2_ hW0 hW1 hS hl hf
  unfold hL_told_187 at hf
  refine lv_iload hx hb dL_told_187 (lv_at hl 5 rfl) ?_
  refine lv_if_eq (tgt := 259) hx hb dL_told_189 (by decide) (fun c_55 => ?_) (fun c_55 => ?_)
  · replace hf := ite_t c_55 hf
    exact bL_told_259 (L := L) (xs := xs) (x3 := x3) X hl0 hdj hX hbA hq43 z0 z1 v4 v6 _ _ _ _ _ (by omega) (by omega) hW0 hW1 hS (lv_sub hl [0, 1, 2, 3, 4, 6] rfl) hf
  · replace hf := ite_f c_55 hf
    refine lv_aload_n hx hb dL_told_192 rfl (lv_at hl 0 rfl) ?_
    refine kD (As := []) (rest := []) X (fun q h => Or.inl h) hW0 hS (tD_errorPosition l D cy ad0 ba0 z0) (cwV 0 X.2.2.2.2.2.1 gL_told_X5_errorPosition rfl rfl rfl kdX5_errorPosition ⟨(Nat.le_of_ble_eq_true rfl), (Nat.le_of_ble_eq_true rfl)⟩) rfl rfl hl.1 (Nat.le_of_ble_eq_true rfl) ⟨by show _ ≤ 193; omega, by show _ ≤ 1158; omega⟩ dL_told_193 (fun H locs hW0 hS hz hk => ?_)
    replace hW1 := aR_kept hW1 (fun q h1 h2 => hk q h1 (fun h => hdj q h h2))
    clear hz hk
    refine lv_bipush (v := (7 : Int32)) hx hb dL_told_196 (by decide) ?_
    refine lv_bipush (v := (8 : Int32)) hx hb dL_told_198 (by decide) ?_
    refine lv_iload hx hb dL_told_200 (lv_at hl 6 rfl) ?_
    refine lv_imul hx hb dL_told_202 ?_
    refine lv_iadd hx hb dL_told_203 ?_
    refine lv_icmp_ne (tgt := 259) hx hb dL_told_204 (by decide) (fun c_56 => ?_) (fun c_56 => ?_)
    · replace hf := ite_f c_56 hf
      exact bL_told_259 (L := L) (xs := xs) (x3 := x3) X hl0 hdj hX hbA hq43 z0 z1 v4 v6 _ _ _ _ _ (by omega) (by omega) hW0 hW1 hS (lv_sub hl [0, 1, 2, 3, 4, 6] rfl) hf
    · replace hf := ite_t c_56 hf
      refine lv_aload_n hx hb dL_told_207 rfl (lv_at hl 0 rfl) ?_
      refine lv_aload_n hx hb dL_told_208 rfl (lv_at hl 1 rfl) ?_
      refine lv_bipush (v := (48 : Int32)) hx hb dL_told_209 (by decide) ?_
      refine lv_iload hx hb dL_told_211 (lv_at hl 7 rfl) ?_
      refine lv_ldc (v := (262144 : Int32)) hx hb hown (X.2.2.2.2.2.1 _ wL_told_120) dL_told_213 ?_
      refine lv_idiv hx hb dL_told_215 (by decide) ?_
      refine lv_bipush (v := (10 : Int32)) hx hb dL_told_216 (by decide) ?_
      refine lv_irem hx hb dL_told_218 (by decide) ?_
      refine lv_iadd hx hb dL_told_219 ?_
      obtain ⟨r_57, z0_20, z1_21, hq_58, hf⟩ := bd3_some hf
      refine kB (As := [.ref (ad0 360), .ref (ad1 360), .int ((48 : Int32) + ((v7 / (262144 : Int32)) - (v7 / (262144 : Int32)) / (10 : Int32) * (10 : Int32)))]) (rest := []) X (fun q h => h) ⟨hW0, hW1⟩ aX_no hS (zcL_put l D cy ad0 ba0 ad1 ba1 hl0 hdj _ hq_58) (va_cwS 3 X.2.2.2.2.2.1 gL_told_L_put rfl rfl rfl kdL_put.2 ⟨(Nat.le_of_ble_eq_true rfl), (Nat.le_of_ble_eq_true rfl)⟩) rfl rfl hl.1 (Nat.le_of_ble_eq_true rfl) ⟨by show _ ≤ 193; omega, by show _ ≤ 1158; omega⟩ dL_told_220 (fun H locs hWW hS hz hk => ?_)
      obtain ⟨hW0, hW1⟩ := hWW
      clear hz hk
      refine lv_if_eq (tgt := 259) hx hb dL_told_223 (by decide) (fun c_59 => ?_) (fun c_59 => ?_)
      · replace hf := ite_t c_59 hf
        exact bL_told_259 (L := L) (xs := xs) (x3 := x3) X hl0 hdj hX hbA hq43 z0_20 z1_21 v4 v6 _ _ _ _ _ (by omega) (by omega) hW0 hW1 hS (lv_sub hl [0, 1, 2, 3, 4, 6] rfl) hf
      · replace hf := ite_f c_59 hf
        refine lv_aload_n hx hb dL_told_226 rfl (lv_at hl 0 rfl) ?_
        refine lv_aload_n hx hb dL_told_227 rfl (lv_at hl 1 rfl) ?_
        refine lv_bipush (v := (48 : Int32)) hx hb dL_told_228 (by decide) ?_
        refine lv_iload hx hb dL_told_230 (lv_at hl 7 rfl) ?_
        refine lv_ldc (v := (4194304 : Int32)) hx hb hown (X.2.2.2.2.2.1 _ wL_told_121) dL_told_232 ?_
        refine lv_idiv hx hb dL_told_234 (by decide) ?_
        refine lv_bipush (v := (10 : Int32)) hx hb dL_told_235 (by decide) ?_
        refine lv_irem hx hb dL_told_237 (by decide) ?_
        refine lv_iadd hx hb dL_told_238 ?_
        obtain ⟨r_60, z0_22, z1_23, hq_61, hf⟩ := bd3_some hf
        refine kB (As := [.ref (ad0 360), .ref (ad1 360), .int ((48 : Int32) + ((v7 / (4194304 : Int32)) - (v7 / (4194304 : Int32)) / (10 : Int32) * (10 : Int32)))]) (rest := []) X (fun q h => h) ⟨hW0, hW1⟩ aX_no hS (zcL_put l D cy ad0 ba0 ad1 ba1 hl0 hdj _ hq_61) (va_cwS 3 X.2.2.2.2.2.1 gL_told_L_put rfl rfl rfl kdL_put.2 ⟨(Nat.le_of_ble_eq_true rfl), (Nat.le_of_ble_eq_true rfl)⟩) rfl rfl hl.1 (Nat.le_of_ble_eq_true rfl) ⟨by show _ ≤ 193; omega, by show _ ≤ 1158; omega⟩ dL_told_239 (fun H locs hWW hS hz hk => ?_)
        obtain ⟨hW0, hW1⟩ := hWW
        clear hz hk
        refine lv_if_eq (tgt := 259) hx hb dL_told_242 (by decide) (fun c_62 => ?_) (fun c_62 => ?_)
        · replace hf := ite_t c_62 hf
          exact bL_told_259 (L := L) (xs := xs) (x3 := x3) X hl0 hdj hX hbA hq43 z0_22 z1_23 v4 v6 _ _ _ _ _ (by omega) (by omega) hW0 hW1 hS (lv_sub hl [0, 1, 2, 3, 4, 6] rfl) hf
        · replace hf := ite_f c_62 hf
          refine lv_aload_n hx hb dL_told_245 rfl (lv_at hl 0 rfl) ?_
          refine kD (As := []) (rest := []) X (fun q h => Or.inl h) hW0 hS (tD_errorPosition l D cy ad0 ba0 z0_22) (cwV 0 X.2.2.2.2.2.1 gL_told_X5_errorPosition rfl rfl rfl kdX5_errorPosition ⟨(Nat.le_of_ble_eq_true rfl), (Nat.le_of_ble_eq_true rfl)⟩) rfl rfl hl.1 (Nat.le_of_ble_eq_true rfl) ⟨by show _ ≤ 193; omega, by show _ ≤ 1158; omega⟩ dL_told_246 (fun H locs hW0 hS hz hk => ?_)
          replace hW1 := aR_kept hW1 (fun q h1 h2 => hk q h1 (fun h => hdj q h h2))
          clear hz hk
          refine lv_sipush (v := (-9999 : Int32)) hx hb dL_told_249 (by decide) ?_
          refine lv_icmp_ne (tgt := 259) hx hb dL_told_252 (by decide) (fun c_63 => ?_) (fun c_63 => ?_)
          · replace hf := ite_f c_63 hf
            exact bL_told_259 (L := L) (xs := xs) (x3 := x3) X hl0 hdj hX hbA hq43 z0_22 z1_23 v4 v6 _ _ _ _ _ (by omega) (by omega) hW0 hW1 hS (lv_sub hl [0, 1, 2, 3, 4, 6] rfl) hf
          · replace hf := ite_t c_63 hf
            refine lv_iconst (v := (1 : Int32)) hx hb dL_told_255 (by decide) ?_
            refine lv_goto (tgt := 260) hx hb dL_told_256 (by decide) ?_
            refine lv_istore (lv' := [(5, .int (1 : Int32)), (0, .ref (ad0 360)), (1, .ref (ad1 360)), (2, .ref b), (3, .int x3), (4, .int v4), (6, .int v6), (7, .int v7)]) hx hb dL_told_260 hl (by decide) rfl (fun ls hl => ?_)
            refine lv_iinc (v := (v6 + (1 : Int32))) (lv' := [(6, .int (v6 + (1 : Int32))), (5, .int (1 : Int32)), (0, .ref (ad0 360)), (1, .ref (ad1 360)), (2, .ref b), (3, .int x3), (4, .int v4), (7, .int v7)]) hx hb dL_told_262 hl (k := 6) rfl rfl (by decide) rfl (fun ls hl => ?_)
            refine lv_goto (tgt := 43) hx hb dL_told_265 (by decide) ?_
            exact hq43 z0_22 z1_23 v4 (1 : Int32) (v6 + (1 : Int32)) _ _ _ _ _ (by omega) (by omega) hW0 hW1 hS (lv_sub hl [2, 3, 4, 5, 6, 1, 0] rfl) hf
set_option maxRecDepth 100000 in
set_option maxHeartbeats 4000000 in
theorem bL_told_130 {p : Program} {l : Launch} {e : Env} {s : State} {m : MethodId} {args : Array Value} {below : List Frame} {meth : Method} {c : Code} {D : va_G} {cy : Nat → ClassId} {ad0 : Nat → Nat} {ba0 : Nat → Prop} {ad1 : Nat → Nat} {ba1 : Nat → Prop} {b : Nat} {L : Nat} {xs : Nat → Int32} {x3 : Int32} {res : (Int32 × (aS × aS))} (X : teC wsL_told RL cL_told 10 (some .boolean) D cy (fun q => ba0 q ∨ ba1 q) p s m args meth c) (hl0 : l.stackTraces = false) (hdj : ∀ q, ba0 q → ¬ ba1 q) (hX : aX true b L xs s s.heap) (hbA : ¬ (fun q => ba0 q ∨ ba1 q) b) {n43 : Nat} {q43 : aS → aS → Int32 → Int32 → Int32 → Option (Int32 × (aS × aS))} (hq43 : ∀ (z0 : aS) (z1 : aS) (v4 : Int32) (v5 : Int32) (v6 : Int32) (H : Heap) (locs : List Loc) (ls : Array Slot) (ce sl : Nat), ce + (18 * n43 + 11) ≤ 193 → sl + (108 * n43 + 66) ≤ 1158 → aR D cy ad0 ba0 z0 H → aR D cy ad1 ba1 z1 H → va_S (fun q => ba0 q ∨ ba1 q) s.heap H locs → lv_has ls 10 [(0, .ref (ad0 360)), (1, .ref (ad1 360)), (2, .ref b), (3, .int x3), (4, .int v4), (5, .int v5), (6, .int v6)] → q43 z0 z1 v4 v5 v6 = some res → W p l e (headSpec wsL_told rmL_told).room s m args below meth c H locs ce sl (MQ below (va_Qi (fun a (_ : Unit) => a = res.1) (fun _ t => (fun H => aR D cy ad0 ba0 res.2.1 H ∧ aR D cy ad1 ba1 res.2.2 H) t.heap) (fun q => ba0 q ∨ ba1 q)) args s 193 1158 (fun q => ba0 q ∨ ba1 q)) (F0 m 43 ls [])) : ∀ (n : Nat), ∀ (z0 : aS) (z1 : aS) (v4 : Int32) (v5 : Int32) (v6 : Int32) (v7 : Int32) (v8 : Int32) (v9 : Int32) (H : Heap) (locs : List Loc) (ls : Array Slot) (ce sl : Nat), ce + (18 * n43 + 2 * n + 15) ≤ 193 → sl + (108 * n43 + 12 * n + 90) ≤ 1158 → aR D cy ad0 ba0 z0 H → aR D cy ad1 ba1 z1 H → va_S (fun q => ba0 q ∨ ba1 q) s.heap H locs → lv_has ls 10 [(0, .ref (ad0 360)), (1, .ref (ad1 360)), (2, .ref b), (3, .int x3), (4, .int v4), (5, .int v5), (6, .int v6), (7, .int v7), (8, .int v8), (9, .int v9)] → hL_told_130 L xs x3 q43 n z0 z1 v4 v5 v6 v7 v8 v9 = some res → W p l e (headSpec wsL_told rmL_told).room s m args below meth c H locs ce sl (MQ below (va_Qi (fun a (_ : Unit) => a = res.1) (fun _ t => (fun H => aR D cy ad0 ba0 res.2.1 H ∧ aR D cy ad1 ba1 res.2.2 H) t.heap) (fun q => ba0 q ∨ ba1 q)) args s 193 1158 (fun q => ba0 q ∨ ba1 q)) (F0 m 130 ls []) := by
  have hx := X.1
  have hb := X.2.1
  have hown := X.2.2.2.2.1
  intro n
  induction n with
  | zero =>
    intro z0 z1 v4 v5 v6 v7 v8 v9 H locs ls ce sl hb1_ hb2_ hW0 hW1 hS hl hf
    exact nomatch hf
  | succ n ih =>
    intro z0 z1 v4 v5 v6 v7 v8 v9 H locs ls ce sl hb1_ hb2_ hW0 hW1 hS hl hf
    unfold hL_told_130 at hf
    refine lv_iload hx hb dL_told_130 (lv_at hl 9 rfl) ?_
    refine lv_iconst (v := (4 : Int32)) hx hb dL_told_132 (by decide) ?_
    refine lv_icmp_ge (tgt := 187) hx hb dL_told_133 (by decide) (fun c_47 => ?_) (fun c_47 => ?_)
    · replace hf := ite_t c_47 hf
      exact bL_told_187 (L := L) (xs := xs) (x3 := x3) X hl0 hdj hX hbA hq43 z0 z1 v4 v5 v6 v7 _ _ _ _ _ (by omega) (by omega) hW0 hW1 hS (lv_sub hl [0, 1, 2, 3, 4, 5, 6, 7] rfl) hf
    · replace hf := ite_f c_47 hf
      refine lv_iload hx hb dL_told_136 (lv_at hl 5 rfl) ?_
      refine lv_if_eq (tgt := 187) hx hb dL_told_138 (by decide) (fun c_48 => ?_) (fun c_48 => ?_)
      · replace hf := ite_t c_48 hf
        exact bL_told_187 (L := L) (xs := xs) (x3 := x3) X hl0 hdj hX hbA hq43 z0 z1 v4 v5 v6 v7 _ _ _ _ _ (by omega) (by omega) hW0 hW1 hS (lv_sub hl [0, 1, 2, 3, 4, 5, 6, 7] rfl) hf
      · replace hf := ite_f c_48 hf
        refine lv_aload_n hx hb dL_told_141 rfl (lv_at hl 0 rfl) ?_
        refine lv_aload_n hx hb dL_told_142 rfl (lv_at hl 1 rfl) ?_
        refine lv_bipush (v := (48 : Int32)) hx hb dL_told_143 (by decide) ?_
        refine lv_iload hx hb dL_told_145 (lv_at hl 9 rfl) ?_
        refine lv_iload hx hb dL_told_147 (lv_at hl 8 rfl) ?_
        refine lv_icmp_ne (tgt := 162) hx hb dL_told_149 (by decide) (fun c_49 => ?_) (fun c_49 => ?_)
        · replace hf := ite_f c_49 hf
          refine lv_iload hx hb dL_told_162 (lv_at hl 7 rfl) ?_
          refine lv_bipush (v := (32 : Int32)) hx hb dL_told_164 (by decide) ?_
          refine lv_iconst (v := (3 : Int32)) hx hb dL_told_166 (by decide) ?_
          refine lv_iload hx hb dL_told_167 (lv_at hl 9 rfl) ?_
          refine lv_imul hx hb dL_told_169 ?_
          refine lv_ishl hx hb dL_told_170 ?_
          obtain ⟨h_50, hf⟩ := chk_some hf
          refine lv_idiv hx hb dL_told_171 (of_decide_eq_true h_50) ?_
          refine lv_bipush (v := (10 : Int32)) hx hb dL_told_172 (by decide) ?_
          refine lv_irem hx hb dL_told_174 (by decide) ?_
          refine lv_iadd hx hb dL_told_175 ?_
          obtain ⟨r_51, z0_16, z1_17, hq_52, hf⟩ := bd3_some hf
          refine kB (As := [.ref (ad0 360), .ref (ad1 360), .int ((48 : Int32) + ((v7 / ((32 : Int32) <<< (((3 : Int32) * v9) &&& 31))) - (v7 / ((32 : Int32) <<< (((3 : Int32) * v9) &&& 31))) / (10 : Int32) * (10 : Int32)))]) (rest := []) X (fun q h => h) ⟨hW0, hW1⟩ aX_no hS (zcL_put l D cy ad0 ba0 ad1 ba1 hl0 hdj _ hq_52) (va_cwS 3 X.2.2.2.2.2.1 gL_told_L_put rfl rfl rfl kdL_put.2 ⟨(Nat.le_of_ble_eq_true rfl), (Nat.le_of_ble_eq_true rfl)⟩) rfl rfl hl.1 (Nat.le_of_ble_eq_true rfl) ⟨by show _ ≤ 193; omega, by show _ ≤ 1158; omega⟩ dL_told_176 (fun H locs hWW hS hz hk => ?_)
          obtain ⟨hW0, hW1⟩ := hWW
          clear hz hk
          refine lv_istore (lv' := [(5, .int r_51), (0, .ref (ad0 360)), (1, .ref (ad1 360)), (2, .ref b), (3, .int x3), (4, .int v4), (6, .int v6), (7, .int v7), (8, .int v8), (9, .int v9)]) hx hb dL_told_179 hl (by decide) rfl (fun ls hl => ?_)
          refine lv_iinc (v := (v9 + (1 : Int32))) (lv' := [(9, .int (v9 + (1 : Int32))), (5, .int r_51), (0, .ref (ad0 360)), (1, .ref (ad1 360)), (2, .ref b), (3, .int x3), (4, .int v4), (6, .int v6), (7, .int v7), (8, .int v8)]) hx hb dL_told_181 hl (k := 9) rfl rfl (by decide) rfl (fun ls hl => ?_)
          refine lv_goto (tgt := 130) hx hb dL_told_184 (by decide) ?_
          exact ih z0_16 z1_17 v4 r_51 v6 v7 v8 (v9 + (1 : Int32)) _ _ _ _ _ (by omega) (by omega) hW0 hW1 hS (lv_sub hl [2, 3, 4, 5, 6, 1, 7, 8, 9, 0] rfl) hf
        · replace hf := ite_t c_49 hf
          refine lv_iload hx hb dL_told_152 (lv_at hl 7 rfl) ?_
          refine lv_bipush (v := (8 : Int32)) hx hb dL_told_154 (by decide) ?_
          refine lv_idiv hx hb dL_told_156 (by decide) ?_
          refine lv_iconst (v := (4 : Int32)) hx hb dL_told_157 (by decide) ?_
          refine lv_irem hx hb dL_told_158 (by decide) ?_
          refine lv_goto (tgt := 175) hx hb dL_told_159 (by decide) ?_
          refine lv_iadd hx hb dL_told_175 ?_
          obtain ⟨r_53, z0_18, z1_19, hq_54, hf⟩ := bd3_some hf
          refine kB (As := [.ref (ad0 360), .ref (ad1 360), .int ((48 : Int32) + ((v7 / (8 : Int32)) - (v7 / (8 : Int32)) / (4 : Int32) * (4 : Int32)))]) (rest := []) X (fun q h => h) ⟨hW0, hW1⟩ aX_no hS (zcL_put l D cy ad0 ba0 ad1 ba1 hl0 hdj _ hq_54) (va_cwS 3 X.2.2.2.2.2.1 gL_told_L_put rfl rfl rfl kdL_put.2 ⟨(Nat.le_of_ble_eq_true rfl), (Nat.le_of_ble_eq_true rfl)⟩) rfl rfl hl.1 (Nat.le_of_ble_eq_true rfl) ⟨by show _ ≤ 193; omega, by show _ ≤ 1158; omega⟩ dL_told_176 (fun H locs hWW hS hz hk => ?_)
          obtain ⟨hW0, hW1⟩ := hWW
          clear hz hk
          refine lv_istore (lv' := [(5, .int r_53), (0, .ref (ad0 360)), (1, .ref (ad1 360)), (2, .ref b), (3, .int x3), (4, .int v4), (6, .int v6), (7, .int v7), (8, .int v8), (9, .int v9)]) hx hb dL_told_179 hl (by decide) rfl (fun ls hl => ?_)
          refine lv_iinc (v := (v9 + (1 : Int32))) (lv' := [(9, .int (v9 + (1 : Int32))), (5, .int r_53), (0, .ref (ad0 360)), (1, .ref (ad1 360)), (2, .ref b), (3, .int x3), (4, .int v4), (6, .int v6), (7, .int v7), (8, .int v8)]) hx hb dL_told_181 hl (k := 9) rfl rfl (by decide) rfl (fun ls hl => ?_)
          refine lv_goto (tgt := 130) hx hb dL_told_184 (by decide) ?_
          exact ih z0_18 z1_19 v4 r_53 v6 v7 v8 (v9 + (1 : Int32)) _ _ _ _ _ (by omega) (by omega) hW0 hW1 hS (lv_sub hl [2, 3, 4, 5, 6, 1, 7, 8, 9, 0] rfl) hf
set_option maxRecDepth 100000 in
set_option maxHeartbeats 4000000 in
theorem bL_told_124 {p : Program} {l : Launch} {e : Env} {s : State} {m : MethodId} {args : Array Value} {below : List Frame} {meth : Method} {c : Code} {D : va_G} {cy : Nat → ClassId} {ad0 : Nat → Nat} {ba0 : Nat → Prop} {ad1 : Nat → Nat} {ba1 : Nat → Prop} {b : Nat} {L : Nat} {xs : Nat → Int32} {x3 : Int32} {res : (Int32 × (aS × aS))} (X : teC wsL_told RL cL_told 10 (some .boolean) D cy (fun q => ba0 q ∨ ba1 q) p s m args meth c) (hl0 : l.stackTraces = false) (hdj : ∀ q, ba0 q → ¬ ba1 q) (hX : aX true b L xs s s.heap) (hbA : ¬ (fun q => ba0 q ∨ ba1 q) b) {n43 : Nat} {q43 : aS → aS → Int32 → Int32 → Int32 → Option (Int32 × (aS × aS))} (hq43 : ∀ (z0 : aS) (z1 : aS) (v4 : Int32) (v5 : Int32) (v6 : Int32) (H : Heap) (locs : List Loc) (ls : Array Slot) (ce sl : Nat), ce + (18 * n43 + 11) ≤ 193 → sl + (108 * n43 + 66) ≤ 1158 → aR D cy ad0 ba0 z0 H → aR D cy ad1 ba1 z1 H → va_S (fun q => ba0 q ∨ ba1 q) s.heap H locs → lv_has ls 10 [(0, .ref (ad0 360)), (1, .ref (ad1 360)), (2, .ref b), (3, .int x3), (4, .int v4), (5, .int v5), (6, .int v6)] → q43 z0 z1 v4 v5 v6 = some res → W p l e (headSpec wsL_told rmL_told).room s m args below meth c H locs ce sl (MQ below (va_Qi (fun a (_ : Unit) => a = res.1) (fun _ t => (fun H => aR D cy ad0 ba0 res.2.1 H ∧ aR D cy ad1 ba1 res.2.2 H) t.heap) (fun q => ba0 q ∨ ba1 q)) args s 193 1158 (fun q => ba0 q ∨ ba1 q)) (F0 m 43 ls [])) : ∀ (z0 : aS) (z1 : aS) (v4 : Int32) (v6 : Int32) (v7 : Int32) (v8 : Int32) (H : Heap) (locs : List Loc) (ls : Array Slot) (ce sl : Nat), ce + (18 * n43 + 25) ≤ 193 → sl + (108 * n43 + 150) ≤ 1158 → aR D cy ad0 ba0 z0 H → aR D cy ad1 ba1 z1 H → va_S (fun q => ba0 q ∨ ba1 q) s.heap H locs → lv_has ls 10 [(0, .ref (ad0 360)), (1, .ref (ad1 360)), (2, .ref b), (3, .int x3), (4, .int v4), (6, .int v6), (7, .int v7), (8, .int v8)] → hL_told_124 L xs x3 q43 z0 z1 v4 v6 v7 v8 = some res → W p l e (headSpec wsL_told rmL_told).room s m args below meth c H locs ce sl (MQ below (va_Qi (fun a (_ : Unit) => a = res.1) (fun _ t => (fun H => aR D cy ad0 ba0 res.2.1 H ∧ aR D cy ad1 ba1 res.2.2 H) t.heap) (fun q => ba0 q ∨ ba1 q)) args s 193 1158 (fun q => ba0 q ∨ ba1 q)) (F0 m 124 ls []) := by
  have hx := X.1
  have hb := X.2.1
  have hown := X.2.2.2.2.1
  intro z0 z1 v4 v6 v7 v8 H locs ls ce sl hb1_ hb2_ hW0 hW1 hS hl hf
  unfold hL_told_124 at hf
  refine lv_iconst (v := (0 : Int32)) hx hb dL_told_124 (by decide) ?_
  refine lv_istore (lv' := [(5, .int (0 : Int32)), (0, .ref (ad0 360)), (1, .ref (ad1 360)), (2, .ref b), (3, .int x3), (4, .int v4), (6, .int v6), (7, .int v7), (8, .int v8)]) hx hb dL_told_125 hl (by decide) rfl (fun ls hl => ?_)
  refine lv_iconst (v := (0 : Int32)) hx hb dL_told_127 (by decide) ?_
  refine lv_istore (lv' := [(9, .int (0 : Int32)), (5, .int (0 : Int32)), (0, .ref (ad0 360)), (1, .ref (ad1 360)), (2, .ref b), (3, .int x3), (4, .int v4), (6, .int v6), (7, .int v7), (8, .int v8)]) hx hb dL_told_128 hl (by decide) rfl (fun ls hl => ?_)
  exact bL_told_130 (L := L) (xs := xs) (x3 := x3) X hl0 hdj hX hbA hq43 5 z0 z1 v4 (0 : Int32) v6 v7 v8 (0 : Int32) _ _ _ _ _ (by omega) (by omega) hW0 hW1 hS (lv_sub hl [2, 3, 4, 5, 6, 1, 7, 8, 9, 0] rfl) hf
set_option maxRecDepth 100000 in
set_option maxHeartbeats 4000000 in
theorem bL_told_386 {p : Program} {l : Launch} {e : Env} {s : State} {m : MethodId} {args : Array Value} {below : List Frame} {meth : Method} {c : Code} {D : va_G} {cy : Nat → ClassId} {ad0 : Nat → Nat} {ba0 : Nat → Prop} {ad1 : Nat → Nat} {ba1 : Nat → Prop} {b : Nat} {L : Nat} {xs : Nat → Int32} {x3 : Int32} {res : (Int32 × (aS × aS))} (X : teC wsL_told RL cL_told 10 (some .boolean) D cy (fun q => ba0 q ∨ ba1 q) p s m args meth c) (hl0 : l.stackTraces = false) (hdj : ∀ q, ba0 q → ¬ ba1 q) (hX : aX true b L xs s s.heap) (hbA : ¬ (fun q => ba0 q ∨ ba1 q) b) : ∀ (z0 : aS) (z1 : aS) (H : Heap) (locs : List Loc) (ls : Array Slot) (ce sl : Nat), ce + (0) ≤ 193 → sl + (0) ≤ 1158 → aR D cy ad0 ba0 z0 H → aR D cy ad1 ba1 z1 H → va_S (fun q => ba0 q ∨ ba1 q) s.heap H locs → lv_has ls 10 [] → hL_told_386 L xs x3 z0 z1 = some res → W p l e (headSpec wsL_told rmL_told).room s m args below meth c H locs ce sl (MQ below (va_Qi (fun a (_ : Unit) => a = res.1) (fun _ t => (fun H => aR D cy ad0 ba0 res.2.1 H ∧ aR D cy ad1 ba1 res.2.2 H) t.heap) (fun q => ba0 q ∨ ba1 q)) args s 193 1158 (fun q => ba0 q ∨ ba1 q)) (F0 m 386 ls []) := by
  have hx := X.1
  have hb := X.2.1
  have hown := X.2.2.2.2.1
  intro z0 z1 H locs ls ce sl hb1_ hb2_ hW0 hW1 hS hl hf
  unfold hL_told_386 at hf
  refine lv_iconst (v := (0 : Int32)) hx hb dL_told_386 (by decide) ?_
  cases Option.some.inj hf
  exact eKz (v := (0 : Int32)) X (Wd1 := (fun H => aR D cy ad0 ba0 z0 H ∧ aR D cy ad1 ba1 z1 H)) ⟨hW0, hW1⟩ hS (by decide) rfl (by omega) (by omega) dL_told_387
set_option maxRecDepth 100000 in
set_option maxHeartbeats 4000000 in
theorem bL_told_268 {p : Program} {l : Launch} {e : Env} {s : State} {m : MethodId} {args : Array Value} {below : List Frame} {meth : Method} {c : Code} {D : va_G} {cy : Nat → ClassId} {ad0 : Nat → Nat} {ba0 : Nat → Prop} {ad1 : Nat → Nat} {ba1 : Nat → Prop} {b : Nat} {L : Nat} {xs : Nat → Int32} {x3 : Int32} {res : (Int32 × (aS × aS))} (X : teC wsL_told RL cL_told 10 (some .boolean) D cy (fun q => ba0 q ∨ ba1 q) p s m args meth c) (hl0 : l.stackTraces = false) (hdj : ∀ q, ba0 q → ¬ ba1 q) (hX : aX true b L xs s s.heap) (hbA : ¬ (fun q => ba0 q ∨ ba1 q) b) : ∀ (z0 : aS) (z1 : aS) (v4 : Int32) (v5 : Int32) (H : Heap) (locs : List Loc) (ls : Array Slot) (ce sl : Nat), ce + (11) ≤ 193 → sl + (66) ≤ 1158 → aR D cy ad0 ba0 z0 H → aR D cy ad1 ba1 z1 H → va_S (fun q => ba0 q ∨ ba1 q) s.heap H locs → lv_has ls 10 [(0, .ref (ad0 360)), (1, .ref (ad1 360)), (4, .int v4), (5, .int v5)] → hL_told_268 L xs x3 z0 z1 v4 v5 = some res → W p l e (headSpec wsL_told rmL_told).room s m args below meth c H locs ce sl (MQ below (va_Qi (fun a (_ : Unit) => a = res.1) (fun _ t => (fun H => aR D cy ad0 ba0 res.2.1 H ∧ aR D cy ad1 ba1 res.2.2 H) t.heap) (fun q => ba0 q ∨ ba1 q)) args s 193 1158 (fun q => ba0 q ∨ ba1 q)) (F0 m 268 ls []) := by
  have hx := X.1
  have hb := X.2.1
  have hown := X.2.2.2.2.1
  intro z0 z1 v4 v5 H locs ls ce sl hb1_ hb2_ hW0 hW1 hS hl hf
  unfold hL_told_268 at hf
  refine lv_iload hx hb dL_told_268 (lv_at hl 3 rfl) ?_
  refine lv_if_eq (tgt := 386) hx hb dL_told_270 (by decide) (fun c_23 => ?_) (fun c_23 => ?_)
  · replace hf := ite_t c_23 hf
    exact bL_told_386 (L := L) (xs := xs) (x3 := x3) X hl0 hdj hX hbA z0 z1 _ _ _ _ _ (by omega) (by omega) hW0 hW1 hS (lv_sub hl [] rfl) hf
  · replace hf := ite_f c_23 hf
    refine lv_aload_n hx hb dL_told_273 rfl (lv_at hl 0 rfl) ?_
    obtain ⟨r_24, z0_9, hq_25, hf⟩ := bd2_some hf
    refine kA (As := [.ref (ad0 360)]) (rest := []) X (fun q h => Or.inl h) hW0 hS (tI_tryLoad l D cy ad0 ba0 hl0 hq_25) (vx_cwSW (hh := [(0, 4, 5, 16)]) 1 X.2.2.2.2.2.1 gL_told_L_tryLoad rfl rfl rfl kdL_tryLoad.2 ⟨(Nat.le_of_ble_eq_true rfl), (Nat.le_of_ble_eq_true rfl)⟩) rfl rfl hl.1 (Nat.le_of_ble_eq_true rfl) ⟨by show _ ≤ 193; omega, by show _ ≤ 1158; omega⟩ dL_told_274 (fun H locs hW0 hS hz hk => ?_)
    replace hW1 := aR_kept hW1 (fun q h1 h2 => hk q h1 (fun h => hdj q h h2))
    clear hz hk
    refine lv_iload hx hb dL_told_277 (lv_at hl 2 rfl) ?_
    refine lv_icmp_ne (tgt := 386) hx hb dL_told_279 (by decide) (fun c_26 => ?_) (fun c_26 => ?_)
    · replace hf := ite_f c_26 hf
      exact bL_told_386 (L := L) (xs := xs) (x3 := x3) X hl0 hdj hX hbA z0_9 z1 _ _ _ _ _ (by omega) (by omega) hW0 hW1 hS (lv_sub hl [] rfl) hf
    · replace hf := ite_t c_26 hf
      refine lv_aload_n hx hb dL_told_282 rfl (lv_at hl 1 rfl) ?_
      obtain ⟨r_27, z1_10, hq_28, hf⟩ := bd2_some hf
      refine kA (As := [.ref (ad1 360)]) (rest := []) X (fun q h => Or.inr h) hW1 hS (tI_tryLoad l D cy ad1 ba1 hl0 hq_28) (vx_cwSW (hh := [(0, 4, 5, 16)]) 1 X.2.2.2.2.2.1 gL_told_L_tryLoad rfl rfl rfl kdL_tryLoad.2 ⟨(Nat.le_of_ble_eq_true rfl), (Nat.le_of_ble_eq_true rfl)⟩) rfl rfl hl.1 (Nat.le_of_ble_eq_true rfl) ⟨by show _ ≤ 193; omega, by show _ ≤ 1158; omega⟩ dL_told_283 (fun H locs hW1 hS hz hk => ?_)
      replace hW0 := aR_kept hW0 (fun q h1 h2 => hk q h1 (hdj q h2))
      clear hz hk
      refine lv_iload hx hb dL_told_286 (lv_at hl 2 rfl) ?_
      refine lv_icmp_ne (tgt := 386) hx hb dL_told_288 (by decide) (fun c_29 => ?_) (fun c_29 => ?_)
      · replace hf := ite_f c_29 hf
        exact bL_told_386 (L := L) (xs := xs) (x3 := x3) X hl0 hdj hX hbA z0_9 z1_10 _ _ _ _ _ (by omega) (by omega) hW0 hW1 hS (lv_sub hl [] rfl) hf
      · replace hf := ite_t c_29 hf
        refine lv_aload_n hx hb dL_told_291 rfl (lv_at hl 0 rfl) ?_
        refine lv_iconst (v := (0 : Int32)) hx hb dL_told_292 (by decide) ?_
        refine kA (As := [.ref (ad0 360), .int (0 : Int32)]) (rest := []) X (fun q h => Or.inl h) hW0 hS (tI_tryAbout l D cy ad0 ba0 hl0 z0_9 (0 : Int32)) (vx_cwSW (hh := [(0, 5, 6, 13)]) 2 X.2.2.2.2.2.1 gL_told_L_tryAbout rfl rfl rfl kdL_tryAbout.2 ⟨(Nat.le_of_ble_eq_true rfl), (Nat.le_of_ble_eq_true rfl)⟩) rfl rfl hl.1 (Nat.le_of_ble_eq_true rfl) ⟨by show _ ≤ 193; omega, by show _ ≤ 1158; omega⟩ dL_told_293 (fun H locs hW0 hS hz hk => ?_)
        replace hW1 := aR_kept hW1 (fun q h1 h2 => hk q h1 (fun h => hdj q h h2))
        clear hz hk
        refine lv_iload hx hb dL_told_296 (lv_at hl 2 rfl) ?_
        refine lv_icmp_ne (tgt := 386) hx hb dL_told_298 (by decide) (fun c_30 => ?_) (fun c_30 => ?_)
        · replace hf := ite_f c_30 hf
          exact bL_told_386 (L := L) (xs := xs) (x3 := x3) X hl0 hdj hX hbA z0_9 z1_10 _ _ _ _ _ (by omega) (by omega) hW0 hW1 hS (lv_sub hl [] rfl) hf
        · replace hf := ite_t c_30 hf
          refine lv_aload_n hx hb dL_told_301 rfl (lv_at hl 0 rfl) ?_
          refine lv_iconst (v := (1 : Int32)) hx hb dL_told_302 (by decide) ?_
          refine kA (As := [.ref (ad0 360), .int (1 : Int32)]) (rest := []) X (fun q h => Or.inl h) hW0 hS (tI_tryAbout l D cy ad0 ba0 hl0 z0_9 (1 : Int32)) (vx_cwSW (hh := [(0, 5, 6, 13)]) 2 X.2.2.2.2.2.1 gL_told_L_tryAbout rfl rfl rfl kdL_tryAbout.2 ⟨(Nat.le_of_ble_eq_true rfl), (Nat.le_of_ble_eq_true rfl)⟩) rfl rfl hl.1 (Nat.le_of_ble_eq_true rfl) ⟨by show _ ≤ 193; omega, by show _ ≤ 1158; omega⟩ dL_told_303 (fun H locs hW0 hS hz hk => ?_)
          replace hW1 := aR_kept hW1 (fun q h1 h2 => hk q h1 (fun h => hdj q h h2))
          clear hz hk
          refine lv_if_ne (tgt := 386) hx hb dL_told_306 (by decide) (fun c_31 => ?_) (fun c_31 => ?_)
          · replace hf := ite_f c_31 hf
            exact bL_told_386 (L := L) (xs := xs) (x3 := x3) X hl0 hdj hX hbA z0_9 z1_10 _ _ _ _ _ (by omega) (by omega) hW0 hW1 hS (lv_sub hl [] rfl) hf
          · replace hf := ite_t c_31 hf
            refine lv_aload_n hx hb dL_told_309 rfl (lv_at hl 0 rfl) ?_
            refine lv_iconst (v := (2 : Int32)) hx hb dL_told_310 (by decide) ?_
            refine kA (As := [.ref (ad0 360), .int (2 : Int32)]) (rest := []) X (fun q h => Or.inl h) hW0 hS (tI_tryAbout l D cy ad0 ba0 hl0 z0_9 (2 : Int32)) (vx_cwSW (hh := [(0, 5, 6, 13)]) 2 X.2.2.2.2.2.1 gL_told_L_tryAbout rfl rfl rfl kdL_tryAbout.2 ⟨(Nat.le_of_ble_eq_true rfl), (Nat.le_of_ble_eq_true rfl)⟩) rfl rfl hl.1 (Nat.le_of_ble_eq_true rfl) ⟨by show _ ≤ 193; omega, by show _ ≤ 1158; omega⟩ dL_told_311 (fun H locs hW0 hS hz hk => ?_)
            replace hW1 := aR_kept hW1 (fun q h1 h2 => hk q h1 (fun h => hdj q h h2))
            clear hz hk
            refine lv_if_ne (tgt := 386) hx hb dL_told_314 (by decide) (fun c_32 => ?_) (fun c_32 => ?_)
            · replace hf := ite_f c_32 hf
              exact bL_told_386 (L := L) (xs := xs) (x3 := x3) X hl0 hdj hX hbA z0_9 z1_10 _ _ _ _ _ (by omega) (by omega) hW0 hW1 hS (lv_sub hl [] rfl) hf
            · replace hf := ite_t c_32 hf
              refine lv_aload_n hx hb dL_told_317 rfl (lv_at hl 0 rfl) ?_
              refine lv_iconst (v := (0 : Int32)) hx hb dL_told_318 (by decide) ?_
              refine lv_bipush (v := (8 : Int32)) hx hb dL_told_319 (by decide) ?_
              refine kA (As := [.ref (ad0 360), .int (0 : Int32), .int (8 : Int32)]) (rest := []) X (fun q h => Or.inl h) hW0 hS (tI_tryMember l D cy ad0 ba0 hl0 z0_9 (0 : Int32) (8 : Int32)) (vx_cwSW (hh := [(0, 6, 7, 30), (0, 6, 11, 13)]) 3 X.2.2.2.2.2.1 gL_told_L_tryMember rfl rfl rfl kdL_tryMember.2 ⟨(Nat.le_of_ble_eq_true rfl), (Nat.le_of_ble_eq_true rfl)⟩) rfl rfl hl.1 (Nat.le_of_ble_eq_true rfl) ⟨by show _ ≤ 193; omega, by show _ ≤ 1158; omega⟩ dL_told_321 (fun H locs hW0 hS hz hk => ?_)
              replace hW1 := aR_kept hW1 (fun q h1 h2 => hk q h1 (fun h => hdj q h h2))
              clear hz hk
              refine lv_sipush (v := (-9999 : Int32)) hx hb dL_told_324 (by decide) ?_
              refine lv_icmp_ne (tgt := 386) hx hb dL_told_327 (by decide) (fun c_33 => ?_) (fun c_33 => ?_)
              · replace hf := ite_f c_33 hf
                exact bL_told_386 (L := L) (xs := xs) (x3 := x3) X hl0 hdj hX hbA z0_9 z1_10 _ _ _ _ _ (by omega) (by omega) hW0 hW1 hS (lv_sub hl [] rfl) hf
              · replace hf := ite_t c_33 hf
                refine lv_aload_n hx hb dL_told_330 rfl (lv_at hl 0 rfl) ?_
                obtain ⟨r_34, z0_11, hq_35, hf⟩ := bd2_some hf
                refine kA (As := [.ref (ad0 360)]) (rest := []) X (fun q h => Or.inl h) hW0 hS (tI_tryUndo l D cy ad0 ba0 hl0 hq_35) (vx_cwSW (hh := [(0, 4, 5, 16)]) 1 X.2.2.2.2.2.1 gL_told_L_tryUndo rfl rfl rfl kdL_tryUndo.2 ⟨(Nat.le_of_ble_eq_true rfl), (Nat.le_of_ble_eq_true rfl)⟩) rfl rfl hl.1 (Nat.le_of_ble_eq_true rfl) ⟨by show _ ≤ 193; omega, by show _ ≤ 1158; omega⟩ dL_told_331 (fun H locs hW0 hS hz hk => ?_)
                replace hW1 := aR_kept hW1 (fun q h1 h2 => hk q h1 (fun h => hdj q h h2))
                clear hz hk
                refine lv_ldc (v := (-99003 : Int32)) hx hb hown (X.2.2.2.2.2.1 _ wL_told_18) dL_told_334 ?_
                refine lv_icmp_ne (tgt := 386) hx hb dL_told_336 (by decide) (fun c_36 => ?_) (fun c_36 => ?_)
                · replace hf := ite_f c_36 hf
                  exact bL_told_386 (L := L) (xs := xs) (x3 := x3) X hl0 hdj hX hbA z0_11 z1_10 _ _ _ _ _ (by omega) (by omega) hW0 hW1 hS (lv_sub hl [] rfl) hf
                · replace hf := ite_t c_36 hf
                  refine lv_aload_n hx hb dL_told_339 rfl (lv_at hl 1 rfl) ?_
                  refine lv_iconst (v := (1 : Int32)) hx hb dL_told_340 (by decide) ?_
                  obtain ⟨r_37, z1_12, hq_38, hf⟩ := bd2_some hf
                  refine kA (As := [.ref (ad1 360), .int (1 : Int32)]) (rest := []) X (fun q h => Or.inr h) hW1 hS (tI_tryRestore l D cy ad1 ba1 hl0 hq_38) (vx_cwSW (hh := [(0, 5, 6, 30), (0, 5, 10, 16)]) 2 X.2.2.2.2.2.1 gL_told_L_tryRestore rfl rfl rfl kdL_tryRestore.2 ⟨(Nat.le_of_ble_eq_true rfl), (Nat.le_of_ble_eq_true rfl)⟩) rfl rfl hl.1 (Nat.le_of_ble_eq_true rfl) ⟨by show _ ≤ 193; omega, by show _ ≤ 1158; omega⟩ dL_told_341 (fun H locs hW1 hS hz hk => ?_)
                  replace hW0 := aR_kept hW0 (fun q h1 h2 => hk q h1 (hdj q h2))
                  clear hz hk
                  refine lv_ldc (v := (-99003 : Int32)) hx hb hown (X.2.2.2.2.2.1 _ wL_told_18) dL_told_344 ?_
                  refine lv_icmp_ne (tgt := 386) hx hb dL_told_346 (by decide) (fun c_39 => ?_) (fun c_39 => ?_)
                  · replace hf := ite_f c_39 hf
                    exact bL_told_386 (L := L) (xs := xs) (x3 := x3) X hl0 hdj hX hbA z0_11 z1_12 _ _ _ _ _ (by omega) (by omega) hW0 hW1 hS (lv_sub hl [] rfl) hf
                  · replace hf := ite_t c_39 hf
                    refine lv_aload_n hx hb dL_told_349 rfl (lv_at hl 0 rfl) ?_
                    refine lv_aload_n hx hb dL_told_350 rfl (lv_at hl 1 rfl) ?_
                    refine lv_bipush (v := (120 : Int32)) hx hb dL_told_351 (by decide) ?_
                    obtain ⟨r_40, z0_13, z1_14, hq_41, hf⟩ := bd3_some hf
                    refine kB (As := [.ref (ad0 360), .ref (ad1 360), .int (120 : Int32)]) (rest := []) X (fun q h => h) ⟨hW0, hW1⟩ aX_no hS (zcL_put l D cy ad0 ba0 ad1 ba1 hl0 hdj _ hq_41) (va_cwS 3 X.2.2.2.2.2.1 gL_told_L_put rfl rfl rfl kdL_put.2 ⟨(Nat.le_of_ble_eq_true rfl), (Nat.le_of_ble_eq_true rfl)⟩) rfl rfl hl.1 (Nat.le_of_ble_eq_true rfl) ⟨by show _ ≤ 193; omega, by show _ ≤ 1158; omega⟩ dL_told_353 (fun H locs hWW hS hz hk => ?_)
                    obtain ⟨hW0, hW1⟩ := hWW
                    clear hz hk
                    refine lv_if_eq (tgt := 386) hx hb dL_told_356 (by decide) (fun c_42 => ?_) (fun c_42 => ?_)
                    · replace hf := ite_t c_42 hf
                      exact bL_told_386 (L := L) (xs := xs) (x3 := x3) X hl0 hdj hX hbA z0_13 z1_14 _ _ _ _ _ (by omega) (by omega) hW0 hW1 hS (lv_sub hl [] rfl) hf
                    · replace hf := ite_f c_42 hf
                      refine lv_aload_n hx hb dL_told_359 rfl (lv_at hl 0 rfl) ?_
                      refine kD (As := []) (rest := []) X (fun q h => Or.inl h) hW0 hS (tD_errorPosition l D cy ad0 ba0 z0_13) (cwV 0 X.2.2.2.2.2.1 gL_told_X5_errorPosition rfl rfl rfl kdX5_errorPosition ⟨(Nat.le_of_ble_eq_true rfl), (Nat.le_of_ble_eq_true rfl)⟩) rfl rfl hl.1 (Nat.le_of_ble_eq_true rfl) ⟨by show _ ≤ 193; omega, by show _ ≤ 1158; omega⟩ dL_told_360 (fun H locs hW0 hS hz hk => ?_)
                      replace hW1 := aR_kept hW1 (fun q h1 h2 => hk q h1 (fun h => hdj q h h2))
                      clear hz hk
                      refine lv_iconst (v := (1 : Int32)) hx hb dL_told_363 (by decide) ?_
                      refine lv_bipush (v := (8 : Int32)) hx hb dL_told_364 (by decide) ?_
                      refine lv_iload hx hb dL_told_366 (lv_at hl 2 rfl) ?_
                      refine lv_imul hx hb dL_told_368 ?_
                      refine lv_iadd hx hb dL_told_369 ?_
                      refine lv_icmp_ne (tgt := 386) hx hb dL_told_370 (by decide) (fun c_43 => ?_) (fun c_43 => ?_)
                      · replace hf := ite_f c_43 hf
                        exact bL_told_386 (L := L) (xs := xs) (x3 := x3) X hl0 hdj hX hbA z0_13 z1_14 _ _ _ _ _ (by omega) (by omega) hW0 hW1 hS (lv_sub hl [] rfl) hf
                      · replace hf := ite_t c_43 hf
                        refine lv_aload_n hx hb dL_told_373 rfl (lv_at hl 0 rfl) ?_
                        obtain ⟨r_44, z0_15, hq_45, hf⟩ := bd2_some hf
                        refine kA (As := [.ref (ad0 360)]) (rest := []) X (fun q h => Or.inl h) hW0 hS (tI_tryLoad l D cy ad0 ba0 hl0 hq_45) (vx_cwSW (hh := [(0, 4, 5, 16)]) 1 X.2.2.2.2.2.1 gL_told_L_tryLoad rfl rfl rfl kdL_tryLoad.2 ⟨(Nat.le_of_ble_eq_true rfl), (Nat.le_of_ble_eq_true rfl)⟩) rfl rfl hl.1 (Nat.le_of_ble_eq_true rfl) ⟨by show _ ≤ 193; omega, by show _ ≤ 1158; omega⟩ dL_told_374 (fun H locs hW0 hS hz hk => ?_)
                        replace hW1 := aR_kept hW1 (fun q h1 h2 => hk q h1 (fun h => hdj q h h2))
                        clear hz hk
                        refine lv_ldc (v := (-99003 : Int32)) hx hb hown (X.2.2.2.2.2.1 _ wL_told_18) dL_told_377 ?_
                        refine lv_icmp_ne (tgt := 386) hx hb dL_told_379 (by decide) (fun c_46 => ?_) (fun c_46 => ?_)
                        · replace hf := ite_f c_46 hf
                          exact bL_told_386 (L := L) (xs := xs) (x3 := x3) X hl0 hdj hX hbA z0_15 z1_14 _ _ _ _ _ (by omega) (by omega) hW0 hW1 hS (lv_sub hl [] rfl) hf
                        · replace hf := ite_t c_46 hf
                          refine lv_iconst (v := (1 : Int32)) hx hb dL_told_382 (by decide) ?_
                          refine lv_goto (tgt := 387) hx hb dL_told_383 (by decide) ?_
                          cases Option.some.inj hf
                          exact eKz (v := (1 : Int32)) X (Wd1 := (fun H => aR D cy ad0 ba0 z0_15 H ∧ aR D cy ad1 ba1 z1_14 H)) ⟨hW0, hW1⟩ hS (by decide) rfl (by omega) (by omega) dL_told_387
set_option maxRecDepth 100000 in
set_option maxHeartbeats 4000000 in
theorem bL_told_43 {p : Program} {l : Launch} {e : Env} {s : State} {m : MethodId} {args : Array Value} {below : List Frame} {meth : Method} {c : Code} {D : va_G} {cy : Nat → ClassId} {ad0 : Nat → Nat} {ba0 : Nat → Prop} {ad1 : Nat → Nat} {ba1 : Nat → Prop} {b : Nat} {L : Nat} {xs : Nat → Int32} {x3 : Int32} {res : (Int32 × (aS × aS))} (X : teC wsL_told RL cL_told 10 (some .boolean) D cy (fun q => ba0 q ∨ ba1 q) p s m args meth c) (hl0 : l.stackTraces = false) (hdj : ∀ q, ba0 q → ¬ ba1 q) (hX : aX true b L xs s s.heap) (hbA : ¬ (fun q => ba0 q ∨ ba1 q) b) : ∀ (n : Nat), ∀ (z0 : aS) (z1 : aS) (v4 : Int32) (v5 : Int32) (v6 : Int32) (H : Heap) (locs : List Loc) (ls : Array Slot) (ce sl : Nat), ce + (18 * n + 11) ≤ 193 → sl + (108 * n + 66) ≤ 1158 → aR D cy ad0 ba0 z0 H → aR D cy ad1 ba1 z1 H → va_S (fun q => ba0 q ∨ ba1 q) s.heap H locs → lv_has ls 10 [(0, .ref (ad0 360)), (1, .ref (ad1 360)), (2, .ref b), (3, .int x3), (4, .int v4), (5, .int v5), (6, .int v6)] → hL_told_43 L xs x3 n z0 z1 v4 v5 v6 = some res → W p l e (headSpec wsL_told rmL_told).room s m args below meth c H locs ce sl (MQ below (va_Qi (fun a (_ : Unit) => a = res.1) (fun _ t => (fun H => aR D cy ad0 ba0 res.2.1 H ∧ aR D cy ad1 ba1 res.2.2 H) t.heap) (fun q => ba0 q ∨ ba1 q)) args s 193 1158 (fun q => ba0 q ∨ ba1 q)) (F0 m 43 ls []) := by
  have hx := X.1
  have hb := X.2.1
  have hown := X.2.2.2.2.1
  intro n
  induction n with
  | zero =>
    intro z0 z1 v4 v5 v6 H locs ls ce sl hb1_ hb2_ hW0 hW1 hS hl hf
    exact nomatch hf
  | succ n ih =>
    intro z0 z1 v4 v5 v6 H locs ls ce sl hb1_ hb2_ hW0 hW1 hS hl hf
    unfold hL_told_43 at hf
    refine lv_iload hx hb dL_told_43 (lv_at hl 6 rfl) ?_
    refine lv_iload hx hb dL_told_45 (lv_at hl 4 rfl) ?_
    refine lv_icmp_ge (tgt := 268) hx hb dL_told_47 (by decide) (fun c_11 => ?_) (fun c_11 => ?_)
    · replace hf := ite_t c_11 hf
      exact bL_told_268 (L := L) (xs := xs) (x3 := x3) X hl0 hdj hX hbA z0 z1 v4 v5 _ _ _ _ _ (by omega) (by omega) hW0 hW1 hS (lv_sub hl [0, 1, 4, 5] rfl) hf
    · replace hf := ite_f c_11 hf
      refine lv_iload hx hb dL_told_50 (lv_at hl 5 rfl) ?_
      refine lv_if_eq (tgt := 268) hx hb dL_told_52 (by decide) (fun c_12 => ?_) (fun c_12 => ?_)
      · replace hf := ite_t c_12 hf
        exact bL_told_268 (L := L) (xs := xs) (x3 := x3) X hl0 hdj hX hbA z0 z1 v4 v5 _ _ _ _ _ (by omega) (by omega) hW0 hW1 hS (lv_sub hl [0, 1, 4, 5] rfl) hf
      · replace hf := ite_f c_12 hf
        refine lv_aload_n hx hb dL_told_55 rfl (lv_at hl 2 rfl) ?_
        refine lv_iload_n hx hb dL_told_56 rfl (lv_at hl 3 rfl) ?_
        refine lv_iconst (v := (1 : Int32)) hx hb dL_told_57 (by decide) ?_
        refine lv_iadd hx hb dL_told_58 ?_
        refine lv_iload hx hb dL_told_59 (lv_at hl 6 rfl) ?_
        refine lv_iadd hx hb dL_told_61 ?_
        obtain ⟨r_13, hq_14, hf⟩ := bd1_some hf
        refine kB (As := [.ref b, .int ((x3 + (1 : Int32)) + v6)]) (rest := []) X (fun q h => h.elim) (Wd := fun _ => True) trivial (aX_S hX hbA hS) hS (zcL_number l D cy hl0 b L xs _ hq_14) (va_cwS 2 X.2.2.2.2.2.1 gL_told_L_number rfl rfl rfl kdL_number.2 ⟨(Nat.le_of_ble_eq_true rfl), (Nat.le_of_ble_eq_true rfl)⟩) rfl rfl hl.1 (Nat.le_of_ble_eq_true rfl) ⟨by show _ ≤ 193; omega, by show _ ≤ 1158; omega⟩ dL_told_62 (fun H locs hWW hS hz hk => ?_)
        replace hW0 := aR_kept hW0 (fun q h1 _ => hk q h1 (fun h => h))
        replace hW1 := aR_kept hW1 (fun q h1 _ => hk q h1 (fun h => h))
        clear hz hk
        refine lv_istore (lv' := [(7, .int r_13), (0, .ref (ad0 360)), (1, .ref (ad1 360)), (2, .ref b), (3, .int x3), (4, .int v4), (5, .int v5), (6, .int v6)]) hx hb dL_told_65 hl (by decide) rfl (fun ls hl => ?_)
        refine lv_iload hx hb dL_told_67 (lv_at hl 0 rfl) ?_
        refine lv_iconst (v := (4 : Int32)) hx hb dL_told_69 (by decide) ?_
        refine lv_irem hx hb dL_told_70 (by decide) ?_
        refine lv_istore (lv' := [(8, .int (r_13 - r_13 / (4 : Int32) * (4 : Int32))), (7, .int r_13), (0, .ref (ad0 360)), (1, .ref (ad1 360)), (2, .ref b), (3, .int x3), (4, .int v4), (5, .int v5), (6, .int v6)]) hx hb dL_told_71 hl (by decide) rfl (fun ls hl => ?_)
        refine lv_aload_n hx hb dL_told_73 rfl (lv_at hl 2 rfl) ?_
        refine kD (As := []) (rest := []) X (fun q h => Or.inl h) hW0 hS (tD_errorPosition l D cy ad0 ba0 z0) (cwV 0 X.2.2.2.2.2.1 gL_told_X5_errorPosition rfl rfl rfl kdX5_errorPosition ⟨(Nat.le_of_ble_eq_true rfl), (Nat.le_of_ble_eq_true rfl)⟩) rfl rfl hl.1 (Nat.le_of_ble_eq_true rfl) ⟨by show _ ≤ 193; omega, by show _ ≤ 1158; omega⟩ dL_told_74 (fun H locs hW0 hS hz hk => ?_)
        replace hW1 := aR_kept hW1 (fun q h1 h2 => hk q h1 (fun h => hdj q h h2))
        clear hz hk
        refine lv_sipush (v := (-9999 : Int32)) hx hb dL_told_77 (by decide) ?_
        refine lv_icmp_ne (tgt := 124) hx hb dL_told_80 (by decide) (fun c_15 => ?_) (fun c_15 => ?_)
        · replace hf := ite_f c_15 hf
          exact bL_told_124 (L := L) (xs := xs) (x3 := x3) X hl0 hdj hX hbA ih z0 z1 v4 v6 r_13 (r_13 - r_13 / (4 : Int32) * (4 : Int32)) _ _ _ _ _ (by omega) (by omega) hW0 hW1 hS (lv_sub hl [2, 3, 4, 5, 6, 8, 1, 0] rfl) hf
        · replace hf := ite_t c_15 hf
          refine lv_aload_n hx hb dL_told_83 rfl (lv_at hl 2 rfl) ?_
          refine lv_aload_n hx hb dL_told_84 rfl (lv_at hl 3 rfl) ?_
          refine lv_bipush (v := (109 : Int32)) hx hb dL_told_85 (by decide) ?_
          obtain ⟨r_16, z0_5, z1_6, hq_17, hf⟩ := bd3_some hf
          refine kB (As := [.ref (ad0 360), .ref (ad1 360), .int (109 : Int32)]) (rest := []) X (fun q h => h) ⟨hW0, hW1⟩ aX_no hS (zcL_put l D cy ad0 ba0 ad1 ba1 hl0 hdj _ hq_17) (va_cwS 3 X.2.2.2.2.2.1 gL_told_L_put rfl rfl rfl kdL_put.2 ⟨(Nat.le_of_ble_eq_true rfl), (Nat.le_of_ble_eq_true rfl)⟩) rfl rfl hl.1 (Nat.le_of_ble_eq_true rfl) ⟨by show _ ≤ 193; omega, by show _ ≤ 1158; omega⟩ dL_told_87 (fun H locs hWW hS hz hk => ?_)
          obtain ⟨hW0, hW1⟩ := hWW
          clear hz hk
          refine lv_if_eq (tgt := 124) hx hb dL_told_90 (by decide) (fun c_18 => ?_) (fun c_18 => ?_)
          · replace hf := ite_t c_18 hf
            exact bL_told_124 (L := L) (xs := xs) (x3 := x3) X hl0 hdj hX hbA ih z0_5 z1_6 v4 v6 r_13 (r_13 - r_13 / (4 : Int32) * (4 : Int32)) _ _ _ _ _ (by omega) (by omega) hW0 hW1 hS (lv_sub hl [2, 3, 4, 5, 6, 8, 1, 0] rfl) hf
          · replace hf := ite_f c_18 hf
            refine lv_aload_n hx hb dL_told_93 rfl (lv_at hl 2 rfl) ?_
            refine kD (As := []) (rest := []) X (fun q h => Or.inl h) hW0 hS (tD_errorPosition l D cy ad0 ba0 z0_5) (cwV 0 X.2.2.2.2.2.1 gL_told_X5_errorPosition rfl rfl rfl kdX5_errorPosition ⟨(Nat.le_of_ble_eq_true rfl), (Nat.le_of_ble_eq_true rfl)⟩) rfl rfl hl.1 (Nat.le_of_ble_eq_true rfl) ⟨by show _ ≤ 193; omega, by show _ ≤ 1158; omega⟩ dL_told_94 (fun H locs hW0 hS hz hk => ?_)
            replace hW1 := aR_kept hW1 (fun q h1 h2 => hk q h1 (fun h => hdj q h h2))
            clear hz hk
            refine lv_iconst (v := (2 : Int32)) hx hb dL_told_97 (by decide) ?_
            refine lv_bipush (v := (8 : Int32)) hx hb dL_told_98 (by decide) ?_
            refine lv_iload hx hb dL_told_100 (lv_at hl 8 rfl) ?_
            refine lv_imul hx hb dL_told_102 ?_
            refine lv_iadd hx hb dL_told_103 ?_
            refine lv_icmp_ne (tgt := 124) hx hb dL_told_104 (by decide) (fun c_19 => ?_) (fun c_19 => ?_)
            · replace hf := ite_f c_19 hf
              exact bL_told_124 (L := L) (xs := xs) (x3 := x3) X hl0 hdj hX hbA ih z0_5 z1_6 v4 v6 r_13 (r_13 - r_13 / (4 : Int32) * (4 : Int32)) _ _ _ _ _ (by omega) (by omega) hW0 hW1 hS (lv_sub hl [2, 3, 4, 5, 6, 8, 1, 0] rfl) hf
            · replace hf := ite_t c_19 hf
              refine lv_aload_n hx hb dL_told_107 rfl (lv_at hl 2 rfl) ?_
              refine lv_aload_n hx hb dL_told_108 rfl (lv_at hl 3 rfl) ?_
              refine lv_bipush (v := (48 : Int32)) hx hb dL_told_109 (by decide) ?_
              refine lv_iload hx hb dL_told_111 (lv_at hl 0 rfl) ?_
              refine lv_iadd hx hb dL_told_113 ?_
              obtain ⟨r_20, z0_7, z1_8, hq_21, hf⟩ := bd3_some hf
              refine kB (As := [.ref (ad0 360), .ref (ad1 360), .int ((48 : Int32) + (r_13 - r_13 / (4 : Int32) * (4 : Int32)))]) (rest := []) X (fun q h => h) ⟨hW0, hW1⟩ aX_no hS (zcL_put l D cy ad0 ba0 ad1 ba1 hl0 hdj _ hq_21) (va_cwS 3 X.2.2.2.2.2.1 gL_told_L_put rfl rfl rfl kdL_put.2 ⟨(Nat.le_of_ble_eq_true rfl), (Nat.le_of_ble_eq_true rfl)⟩) rfl rfl hl.1 (Nat.le_of_ble_eq_true rfl) ⟨by show _ ≤ 193; omega, by show _ ≤ 1158; omega⟩ dL_told_114 (fun H locs hWW hS hz hk => ?_)
              obtain ⟨hW0, hW1⟩ := hWW
              clear hz hk
              refine lv_if_eq (tgt := 124) hx hb dL_told_117 (by decide) (fun c_22 => ?_) (fun c_22 => ?_)
              · replace hf := ite_t c_22 hf
                exact bL_told_124 (L := L) (xs := xs) (x3 := x3) X hl0 hdj hX hbA ih z0_7 z1_8 v4 v6 r_13 (r_13 - r_13 / (4 : Int32) * (4 : Int32)) _ _ _ _ _ (by omega) (by omega) hW0 hW1 hS (lv_sub hl [2, 3, 4, 5, 6, 8, 1, 0] rfl) hf
              · replace hf := ite_f c_22 hf
                refine lv_iconst (v := (1 : Int32)) hx hb dL_told_120 (by decide) ?_
                refine lv_goto (tgt := 125) hx hb dL_told_121 (by decide) ?_
                refine lv_istore (lv' := [(5, .int (1 : Int32)), (8, .int (r_13 - r_13 / (4 : Int32) * (4 : Int32))), (7, .int r_13), (0, .ref (ad0 360)), (1, .ref (ad1 360)), (2, .ref b), (3, .int x3), (4, .int v4), (6, .int v6)]) hx hb dL_told_125 hl (by decide) rfl (fun ls hl => ?_)
                refine lv_iconst (v := (0 : Int32)) hx hb dL_told_127 (by decide) ?_
                refine lv_istore (lv' := [(9, .int (0 : Int32)), (5, .int (1 : Int32)), (8, .int (r_13 - r_13 / (4 : Int32) * (4 : Int32))), (7, .int r_13), (0, .ref (ad0 360)), (1, .ref (ad1 360)), (2, .ref b), (3, .int x3), (4, .int v4), (6, .int v6)]) hx hb dL_told_128 hl (by decide) rfl (fun ls hl => ?_)
                exact bL_told_130 (L := L) (xs := xs) (x3 := x3) X hl0 hdj hX hbA ih 5 z0_7 z1_8 v4 (1 : Int32) v6 r_13 (r_13 - r_13 / (4 : Int32) * (4 : Int32)) (0 : Int32) _ _ _ _ _ (by omega) (by omega) hW0 hW1 hS (lv_sub hl [4, 5, 6, 7, 8, 1, 9, 3, 2, 0] rfl) hf
set_option maxRecDepth 100000 in
set_option maxHeartbeats 4000000 in
theorem bL_told_0 {p : Program} {l : Launch} {e : Env} {s : State} {m : MethodId} {args : Array Value} {below : List Frame} {meth : Method} {c : Code} {D : va_G} {cy : Nat → ClassId} {ad0 : Nat → Nat} {ba0 : Nat → Prop} {ad1 : Nat → Nat} {ba1 : Nat → Prop} {b : Nat} {L : Nat} {xs : Nat → Int32} {x3 : Int32} {res : (Int32 × (aS × aS))} (X : teC wsL_told RL cL_told 10 (some .boolean) D cy (fun q => ba0 q ∨ ba1 q) p s m args meth c) (hl0 : l.stackTraces = false) (hdj : ∀ q, ba0 q → ¬ ba1 q) (hX : aX true b L xs s s.heap) (hbA : ¬ (fun q => ba0 q ∨ ba1 q) b) : ∀ (z0 : aS) (z1 : aS) (H : Heap) (locs : List Loc) (ls : Array Slot) (ce sl : Nat), ce + (193) ≤ 193 → sl + (1158) ≤ 1158 → aR D cy ad0 ba0 z0 H → aR D cy ad1 ba1 z1 H → va_S (fun q => ba0 q ∨ ba1 q) s.heap H locs → lv_has ls 10 [(0, .ref (ad0 360)), (1, .ref (ad1 360)), (2, .ref b), (3, .int x3)] → hL_told L xs x3 z0 z1 = some res → W p l e (headSpec wsL_told rmL_told).room s m args below meth c H locs ce sl (MQ below (va_Qi (fun a (_ : Unit) => a = res.1) (fun _ t => (fun H => aR D cy ad0 ba0 res.2.1 H ∧ aR D cy ad1 ba1 res.2.2 H) t.heap) (fun q => ba0 q ∨ ba1 q)) args s 193 1158 (fun q => ba0 q ∨ ba1 q)) (F0 m 0 ls []) := by
  have hx := X.1
  have hb := X.2.1
  have hown := X.2.2.2.2.1
  intro z0 z1 H locs ls ce sl hb1_ hb2_ hW0 hW1 hS hl hf
  unfold hL_told at hf
  refine lv_iconst (v := (3 : Int32)) hx hb dL_told_0 (by decide) ?_
  refine lv_aload_n hx hb dL_told_1 rfl (lv_at hl 2 rfl) ?_
  refine lv_iload_n hx hb dL_told_2 rfl (lv_at hl 3 rfl) ?_
  obtain ⟨r_1, hq_2, hf⟩ := bd1_some hf
  refine kB (As := [.ref b, .int x3]) (rest := [.int (3 : Int32)]) X (fun q h => h.elim) (Wd := fun _ => True) trivial (aX_S hX hbA hS) hS (zcL_number l D cy hl0 b L xs _ hq_2) (va_cwS 2 X.2.2.2.2.2.1 gL_told_L_number rfl rfl rfl kdL_number.2 ⟨(Nat.le_of_ble_eq_true rfl), (Nat.le_of_ble_eq_true rfl)⟩) rfl rfl hl.1 (Nat.le_of_ble_eq_true rfl) ⟨by show _ ≤ 193; omega, by show _ ≤ 1158; omega⟩ dL_told_3 (fun H locs hWW hS hz hk => ?_)
  replace hW0 := aR_kept hW0 (fun q h1 _ => hk q h1 (fun h => h))
  replace hW1 := aR_kept hW1 (fun q h1 _ => hk q h1 (fun h => h))
  clear hz hk
  refine lv_bipush (v := (7 : Int32)) hx hb dL_told_6 (by decide) ?_
  refine lv_irem hx hb dL_told_8 (by decide) ?_
  refine lv_iadd hx hb dL_told_9 ?_
  refine lv_istore (lv' := [(4, .int ((3 : Int32) + (r_1 - r_1 / (7 : Int32) * (7 : Int32)))), (0, .ref (ad0 360)), (1, .ref (ad1 360)), (2, .ref b), (3, .int x3)]) hx hb dL_told_10 hl (by decide) rfl (fun ls hl => ?_)
  refine lv_aload_n hx hb dL_told_12 rfl (lv_at hl 1 rfl) ?_
  obtain ⟨r_3, z0_1, hq_4, hf⟩ := bd2_some hf
  refine kD (As := []) (rest := []) X (fun q h => Or.inl h) hW0 hS (tD_clearText l D cy ad0 ba0 hq_4) (cwV 0 X.2.2.2.2.2.1 gL_told_X5_clearText rfl rfl rfl kdX5_clearText ⟨(Nat.le_of_ble_eq_true rfl), (Nat.le_of_ble_eq_true rfl)⟩) rfl rfl hl.1 (Nat.le_of_ble_eq_true rfl) ⟨by show _ ≤ 193; omega, by show _ ≤ 1158; omega⟩ dL_told_13 (fun H locs hW0 hS hz hk => ?_)
  replace hW1 := aR_kept hW1 (fun q h1 h2 => hk q h1 (fun h => hdj q h h2))
  clear hz hk
  refine lv_aload_n hx hb dL_told_16 rfl (lv_at hl 2 rfl) ?_
  obtain ⟨r_5, z1_2, hq_6, hf⟩ := bd2_some hf
  refine kD (As := []) (rest := [.int r_3]) X (fun q h => Or.inr h) hW1 hS (tD_clearText l D cy ad1 ba1 hq_6) (cwV 0 X.2.2.2.2.2.1 gL_told_X5_clearText rfl rfl rfl kdX5_clearText ⟨(Nat.le_of_ble_eq_true rfl), (Nat.le_of_ble_eq_true rfl)⟩) rfl rfl hl.1 (Nat.le_of_ble_eq_true rfl) ⟨by show _ ≤ 193; omega, by show _ ≤ 1158; omega⟩ dL_told_17 (fun H locs hW1 hS hz hk => ?_)
  replace hW0 := aR_kept hW0 (fun q h1 h2 => hk q h1 (hdj q h2))
  clear hz hk
  refine lv_icmp_ne (tgt := 37) hx hb dL_told_20 (by decide) (fun c_7 => ?_) (fun c_7 => ?_)
  · replace hf := ite_f c_7 hf
    refine lv_iconst (v := (0 : Int32)) hx hb dL_told_37 (by decide) ?_
    refine lv_istore (lv' := [(5, .int (0 : Int32)), (4, .int ((3 : Int32) + (r_1 - r_1 / (7 : Int32) * (7 : Int32)))), (0, .ref (ad0 360)), (1, .ref (ad1 360)), (2, .ref b), (3, .int x3)]) hx hb dL_told_38 hl (by decide) rfl (fun ls hl => ?_)
    refine lv_iconst (v := (0 : Int32)) hx hb dL_told_40 (by decide) ?_
    refine lv_istore (lv' := [(6, .int (0 : Int32)), (5, .int (0 : Int32)), (4, .int ((3 : Int32) + (r_1 - r_1 / (7 : Int32) * (7 : Int32)))), (0, .ref (ad0 360)), (1, .ref (ad1 360)), (2, .ref b), (3, .int x3)]) hx hb dL_told_41 hl (by decide) rfl (fun ls hl => ?_)
    exact bL_told_43 (L := L) (xs := xs) (x3 := x3) X hl0 hdj hX hbA 10 z0_1 z1_2 ((3 : Int32) + (r_1 - r_1 / (7 : Int32) * (7 : Int32))) (0 : Int32) (0 : Int32) _ _ _ _ _ (by omega) (by omega) hW0 hW1 hS (lv_sub hl [3, 4, 5, 6, 2, 1, 0] rfl) hf
  · replace hf := ite_t c_7 hf
    refine lv_aload_n hx hb dL_told_23 rfl (lv_at hl 1 rfl) ?_
    refine lv_aload_n hx hb dL_told_24 rfl (lv_at hl 2 rfl) ?_
    refine lv_bipush (v := (76 : Int32)) hx hb dL_told_25 (by decide) ?_
    obtain ⟨r_8, z0_3, z1_4, hq_9, hf⟩ := bd3_some hf
    refine kB (As := [.ref (ad0 360), .ref (ad1 360), .int (76 : Int32)]) (rest := []) X (fun q h => h) ⟨hW0, hW1⟩ aX_no hS (zcL_put l D cy ad0 ba0 ad1 ba1 hl0 hdj _ hq_9) (va_cwS 3 X.2.2.2.2.2.1 gL_told_L_put rfl rfl rfl kdL_put.2 ⟨(Nat.le_of_ble_eq_true rfl), (Nat.le_of_ble_eq_true rfl)⟩) rfl rfl hl.1 (Nat.le_of_ble_eq_true rfl) ⟨by show _ ≤ 193; omega, by show _ ≤ 1158; omega⟩ dL_told_27 (fun H locs hWW hS hz hk => ?_)
    obtain ⟨hW0, hW1⟩ := hWW
    clear hz hk
    refine lv_if_eq (tgt := 37) hx hb dL_told_30 (by decide) (fun c_10 => ?_) (fun c_10 => ?_)
    · replace hf := ite_t c_10 hf
      refine lv_iconst (v := (0 : Int32)) hx hb dL_told_37 (by decide) ?_
      refine lv_istore (lv' := [(5, .int (0 : Int32)), (4, .int ((3 : Int32) + (r_1 - r_1 / (7 : Int32) * (7 : Int32)))), (0, .ref (ad0 360)), (1, .ref (ad1 360)), (2, .ref b), (3, .int x3)]) hx hb dL_told_38 hl (by decide) rfl (fun ls hl => ?_)
      refine lv_iconst (v := (0 : Int32)) hx hb dL_told_40 (by decide) ?_
      refine lv_istore (lv' := [(6, .int (0 : Int32)), (5, .int (0 : Int32)), (4, .int ((3 : Int32) + (r_1 - r_1 / (7 : Int32) * (7 : Int32)))), (0, .ref (ad0 360)), (1, .ref (ad1 360)), (2, .ref b), (3, .int x3)]) hx hb dL_told_41 hl (by decide) rfl (fun ls hl => ?_)
      exact bL_told_43 (L := L) (xs := xs) (x3 := x3) X hl0 hdj hX hbA 10 z0_3 z1_4 ((3 : Int32) + (r_1 - r_1 / (7 : Int32) * (7 : Int32))) (0 : Int32) (0 : Int32) _ _ _ _ _ (by omega) (by omega) hW0 hW1 hS (lv_sub hl [3, 4, 5, 6, 2, 1, 0] rfl) hf
    · replace hf := ite_f c_10 hf
      refine lv_iconst (v := (1 : Int32)) hx hb dL_told_33 (by decide) ?_
      refine lv_goto (tgt := 38) hx hb dL_told_34 (by decide) ?_
      refine lv_istore (lv' := [(5, .int (1 : Int32)), (4, .int ((3 : Int32) + (r_1 - r_1 / (7 : Int32) * (7 : Int32)))), (0, .ref (ad0 360)), (1, .ref (ad1 360)), (2, .ref b), (3, .int x3)]) hx hb dL_told_38 hl (by decide) rfl (fun ls hl => ?_)
      refine lv_iconst (v := (0 : Int32)) hx hb dL_told_40 (by decide) ?_
      refine lv_istore (lv' := [(6, .int (0 : Int32)), (5, .int (1 : Int32)), (4, .int ((3 : Int32) + (r_1 - r_1 / (7 : Int32) * (7 : Int32)))), (0, .ref (ad0 360)), (1, .ref (ad1 360)), (2, .ref b), (3, .int x3)]) hx hb dL_told_41 hl (by decide) rfl (fun ls hl => ?_)
      exact bL_told_43 (L := L) (xs := xs) (x3 := x3) X hl0 hdj hX hbA 10 z0_3 z1_4 ((3 : Int32) + (r_1 - r_1 / (7 : Int32) * (7 : Int32))) (1 : Int32) (0 : Int32) _ _ _ _ _ (by omega) (by omega) hW0 hW1 hS (lv_sub hl [3, 4, 5, 6, 2, 1, 0] rfl) hf
theorem zcL_told (l : Launch) (D : va_G) (cy : Nat → ClassId) (ad0 : Nat → Nat) (ba0 : Nat → Prop) (ad1 : Nat → Nat) (ba1 : Nat → Prop) (hl0 : l.stackTraces = false) (hdj : ∀ q, ba0 q → ¬ ba1 q) (b L : Nat) (xs : Nat → Int32) (hbA : ¬ (fun q => ba0 q ∨ ba1 q) b) {z0 : aS} {z1 : aS} {x3 : Int32} (res : (Int32 × (aS × aS))) (hf : hL_told L xs x3 z0 z1 = some res) : aJ l yL_told wsL_told rmL_told 193 1158 D cy (fun q => ba0 q ∨ ba1 q) (fun H => aR D cy ad0 ba0 z0 H ∧ aR D cy ad1 ba1 z1 H) true b L xs [.ref (ad0 360), .ref (ad1 360), .ref b, .int x3] res.1 (fun H => aR D cy ad0 ba0 res.2.1 H ∧ aR D cy ad1 ba1 res.2.2 H) :=
  a_of (by decide) rfl (Nat.le_of_ble_eq_true rfl) (fun p e s m below meth c ls X hW hX hS hl => bL_told_0 (L := L) (xs := xs) (x3 := x3) X hl0 hdj hX hbA z0 z1 _ _ _ 0 0 (Nat.le_of_ble_eq_true rfl) (Nat.le_of_ble_eq_true rfl) hW.1 hW.2 hS hl hf)
