abbrev rmL_alike : Room := { frames := 9, cells := 267, slots := 1602, locals := 157 }
theorem kdL_alike : yL_alike.cls = RL ∧ yL_alike.cls ≠ "java/lang/invoke/MethodHandle" ∧ yL_alike.cls ≠ "java/lang/invoke/VarHandle" ∧ (parseMethodDescriptor yL_alike.desc).map (fun d => d.parameters.length) = some 2 := by decide +kernel
set_option maxRecDepth 100000 in
set_option maxHeartbeats 4000000 in
theorem bL_alike_57 {p : Program} {l : Launch} {e : Env} {s : State} {m : MethodId} {args : Array Value} {below : List Frame} {meth : Method} {c : Code} {D : va_G} {cy : Nat → ClassId} {ad0 : Nat → Nat} {ba0 : Nat → Prop} {ad1 : Nat → Nat} {ba1 : Nat → Prop} {z0 : aS} {z1 : aS} {res : Int32} (X : teC wsL_alike RL cL_alike 5 (some .boolean) D cy (fun q => ba0 q ∨ ba1 q) p s m args meth c) (hl0 : l.stackTraces = false) (hdj : ∀ q, ba0 q → ¬ ba1 q) {n41 : Nat} {q41 : Int32 → Int32 → Option Int32} (hq41 : ∀ (v2 : Int32) (v3 : Int32) (H : Heap) (locs : List Loc) (ls : Array Slot) (ce sl : Nat), ce + (25 * n41 + 1) ≤ 267 → sl + (150 * n41 + 6) ≤ 1602 → aR D cy ad0 ba0 z0 H → aR D cy ad1 ba1 z1 H → va_S (fun q => ba0 q ∨ ba1 q) s.heap H locs → lv_has ls 5 [(0, .ref (ad0 360)), (1, .ref (ad1 360)), (2, .int v2), (3, .int v3)] → q41 v2 v3 = some res → W p l e (headSpec wsL_alike rmL_alike).room s m args below meth c H locs ce sl (MQ below (va_Qi (fun a (_ : Unit) => a = res) (fun _ t => (fun H => aR D cy ad0 ba0 z0 H ∧ aR D cy ad1 ba1 z1 H) t.heap) (fun q => ba0 q ∨ ba1 q)) args s 267 1602 (fun q => ba0 q ∨ ba1 q)) (F0 m 41 ls [])) : ∀ (n : Nat), ∀ (v2 : Int32) (v3 : Int32) (v4 : Int32) (H : Heap) (locs : List Loc) (ls : Array Slot) (ce sl : Nat), ce + (25 * n41 + 2 * n + 1) ≤ 267 → sl + (150 * n41 + 12 * n + 6) ≤ 1602 → aR D cy ad0 ba0 z0 H → aR D cy ad1 ba1 z1 H → va_S (fun q => ba0 q ∨ ba1 q) s.heap H locs → lv_has ls 5 [(0, .ref (ad0 360)), (1, .ref (ad1 360)), (2, .int v2), (3, .int v3), (4, .int v4)] → hL_alike_57 z0 z1 q41 n v2 v3 v4 = some res → W p l e (headSpec wsL_alike rmL_alike).room s m args below meth c H locs ce sl (MQ below (va_Qi (fun a (_ : Unit) => a = res) (fun _ t => (fun H => aR D cy ad0 ba0 z0 H ∧ aR D cy ad1 ba1 z1 H) t.heap) (fun q => ba0 q ∨ ba1 q)) args s 267 1602 (fun q => ba0 q ∨ ba1 q)) (F0 m 57 ls []) := by
  have hx := X.1
  have hb := X.2.1
  have hown := X.2.2.2.2.1
  intro n
  induction n with
  | zero =>
    intro v2 v3 v4 H locs ls ce sl hb1_ hb2_ hW0 hW1 hS hl hf
    exact nomatch hf
  | succ n ih =>
    intro v2 v3 v4 H locs ls ce sl hb1_ hb2_ hW0 hW1 hS hl hf
    unfold hL_alike_57 at hf
    refine lv_iload hx hb dL_alike_57 (lv_at hl 4 rfl) ?_
    refine lv_bipush (v := (11 : Int32)) hx hb dL_alike_59 (by decide) ?_
    refine lv_icmp_ge (tgt := 97) hx hb dL_alike_61 (by decide) (fun c_8 => ?_) (fun c_8 => ?_)
    · replace hf := ite_t c_8 hf
      refine lv_iinc (v := (v3 + (1 : Int32))) (lv' := [(3, .int (v3 + (1 : Int32))), (0, .ref (ad0 360)), (1, .ref (ad1 360)), (2, .int v2), (4, .int v4)]) hx hb dL_alike_97 hl (k := 3) rfl rfl (by decide) rfl (fun ls hl => ?_)
      refine lv_goto (tgt := 41) hx hb dL_alike_100 (by decide) ?_
      exact hq41 v2 (v3 + (1 : Int32)) _ _ _ _ _ (by omega) (by omega) hW0 hW1 hS (lv_sub hl [1, 2, 3, 0] rfl) hf
    · replace hf := ite_f c_8 hf
      refine lv_iload_n hx hb dL_alike_64 rfl (lv_at hl 2 rfl) ?_
      refine lv_if_eq (tgt := 89) hx hb dL_alike_65 (by decide) (fun c_9 => ?_) (fun c_9 => ?_)
      · replace hf := ite_t c_9 hf
        refine lv_iconst (v := (0 : Int32)) hx hb dL_alike_89 (by decide) ?_
        refine lv_istore_n (lv' := [(2, .int (0 : Int32)), (0, .ref (ad0 360)), (1, .ref (ad1 360)), (3, .int v3), (4, .int v4)]) hx hb dL_alike_90 rfl hl (by decide) rfl (fun ls hl => ?_)
        refine lv_iinc (v := (v4 + (1 : Int32))) (lv' := [(4, .int (v4 + (1 : Int32))), (2, .int (0 : Int32)), (0, .ref (ad0 360)), (1, .ref (ad1 360)), (3, .int v3)]) hx hb dL_alike_91 hl (k := 4) rfl rfl (by decide) rfl (fun ls hl => ?_)
        refine lv_goto (tgt := 57) hx hb dL_alike_94 (by decide) ?_
        exact ih (0 : Int32) v3 (v4 + (1 : Int32)) _ _ _ _ _ (by omega) (by omega) hW0 hW1 hS (lv_sub hl [2, 3, 1, 4, 0] rfl) hf
      · replace hf := ite_f c_9 hf
        refine lv_aload_n hx hb dL_alike_68 rfl (lv_at hl 0 rfl) ?_
        refine lv_iload_n hx hb dL_alike_69 rfl (lv_at hl 3 rfl) ?_
        refine lv_iload hx hb dL_alike_70 (lv_at hl 4 rfl) ?_
        refine kA (As := [.ref (ad0 360), .int v3, .int v4]) (rest := []) X (fun q h => Or.inl h) hW0 hS (tI_tryMember l D cy ad0 ba0 hl0 z0 v3 v4) (vx_cwSW (hh := [(0, 6, 7, 30), (0, 6, 11, 13)]) 3 X.2.2.2.2.2.1 gL_alike_L_tryMember rfl rfl rfl kdL_tryMember.2 ⟨(Nat.le_of_ble_eq_true rfl), (Nat.le_of_ble_eq_true rfl)⟩) rfl rfl hl.1 (Nat.le_of_ble_eq_true rfl) ⟨by show _ ≤ 267; omega, by show _ ≤ 1602; omega⟩ dL_alike_72 (fun H locs hW0 hS hz hk => ?_)
        replace hW1 := aR_kept hW1 (fun q h1 h2 => hk q h1 (fun h => hdj q h h2))
        clear hz hk
        refine lv_aload_n hx hb dL_alike_75 rfl (lv_at hl 1 rfl) ?_
        refine lv_iload_n hx hb dL_alike_76 rfl (lv_at hl 3 rfl) ?_
        refine lv_iload hx hb dL_alike_77 (lv_at hl 4 rfl) ?_
        refine kA (As := [.ref (ad1 360), .int v3, .int v4]) (rest := [.int (A_tryMember z0 v3 v4)]) X (fun q h => Or.inr h) hW1 hS (tI_tryMember l D cy ad1 ba1 hl0 z1 v3 v4) (vx_cwSW (hh := [(0, 6, 7, 30), (0, 6, 11, 13)]) 3 X.2.2.2.2.2.1 gL_alike_L_tryMember rfl rfl rfl kdL_tryMember.2 ⟨(Nat.le_of_ble_eq_true rfl), (Nat.le_of_ble_eq_true rfl)⟩) rfl rfl hl.1 (Nat.le_of_ble_eq_true rfl) ⟨by show _ ≤ 267; omega, by show _ ≤ 1602; omega⟩ dL_alike_79 (fun H locs hW1 hS hz hk => ?_)
        replace hW0 := aR_kept hW0 (fun q h1 h2 => hk q h1 (hdj q h2))
        clear hz hk
        refine lv_icmp_ne (tgt := 89) hx hb dL_alike_82 (by decide) (fun c_10 => ?_) (fun c_10 => ?_)
        · replace hf := ite_f c_10 hf
          refine lv_iconst (v := (0 : Int32)) hx hb dL_alike_89 (by decide) ?_
          refine lv_istore_n (lv' := [(2, .int (0 : Int32)), (0, .ref (ad0 360)), (1, .ref (ad1 360)), (3, .int v3), (4, .int v4)]) hx hb dL_alike_90 rfl hl (by decide) rfl (fun ls hl => ?_)
          refine lv_iinc (v := (v4 + (1 : Int32))) (lv' := [(4, .int (v4 + (1 : Int32))), (2, .int (0 : Int32)), (0, .ref (ad0 360)), (1, .ref (ad1 360)), (3, .int v3)]) hx hb dL_alike_91 hl (k := 4) rfl rfl (by decide) rfl (fun ls hl => ?_)
          refine lv_goto (tgt := 57) hx hb dL_alike_94 (by decide) ?_
          exact ih (0 : Int32) v3 (v4 + (1 : Int32)) _ _ _ _ _ (by omega) (by omega) hW0 hW1 hS (lv_sub hl [2, 3, 1, 4, 0] rfl) hf
        · replace hf := ite_t c_10 hf
          refine lv_iconst (v := (1 : Int32)) hx hb dL_alike_85 (by decide) ?_
          refine lv_goto (tgt := 90) hx hb dL_alike_86 (by decide) ?_
          refine lv_istore_n (lv' := [(2, .int (1 : Int32)), (0, .ref (ad0 360)), (1, .ref (ad1 360)), (3, .int v3), (4, .int v4)]) hx hb dL_alike_90 rfl hl (by decide) rfl (fun ls hl => ?_)
          refine lv_iinc (v := (v4 + (1 : Int32))) (lv' := [(4, .int (v4 + (1 : Int32))), (2, .int (1 : Int32)), (0, .ref (ad0 360)), (1, .ref (ad1 360)), (3, .int v3)]) hx hb dL_alike_91 hl (k := 4) rfl rfl (by decide) rfl (fun ls hl => ?_)
          refine lv_goto (tgt := 57) hx hb dL_alike_94 (by decide) ?_
          exact ih (1 : Int32) v3 (v4 + (1 : Int32)) _ _ _ _ _ (by omega) (by omega) hW0 hW1 hS (lv_sub hl [2, 3, 1, 4, 0] rfl) hf
set_option maxRecDepth 100000 in
set_option maxHeartbeats 4000000 in
theorem bL_alike_41 {p : Program} {l : Launch} {e : Env} {s : State} {m : MethodId} {args : Array Value} {below : List Frame} {meth : Method} {c : Code} {D : va_G} {cy : Nat → ClassId} {ad0 : Nat → Nat} {ba0 : Nat → Prop} {ad1 : Nat → Nat} {ba1 : Nat → Prop} {z0 : aS} {z1 : aS} {res : Int32} (X : teC wsL_alike RL cL_alike 5 (some .boolean) D cy (fun q => ba0 q ∨ ba1 q) p s m args meth c) (hl0 : l.stackTraces = false) (hdj : ∀ q, ba0 q → ¬ ba1 q) : ∀ (n : Nat), ∀ (v2 : Int32) (v3 : Int32) (H : Heap) (locs : List Loc) (ls : Array Slot) (ce sl : Nat), ce + (25 * n + 1) ≤ 267 → sl + (150 * n + 6) ≤ 1602 → aR D cy ad0 ba0 z0 H → aR D cy ad1 ba1 z1 H → va_S (fun q => ba0 q ∨ ba1 q) s.heap H locs → lv_has ls 5 [(0, .ref (ad0 360)), (1, .ref (ad1 360)), (2, .int v2), (3, .int v3)] → hL_alike_41 z0 z1 n v2 v3 = some res → W p l e (headSpec wsL_alike rmL_alike).room s m args below meth c H locs ce sl (MQ below (va_Qi (fun a (_ : Unit) => a = res) (fun _ t => (fun H => aR D cy ad0 ba0 z0 H ∧ aR D cy ad1 ba1 z1 H) t.heap) (fun q => ba0 q ∨ ba1 q)) args s 267 1602 (fun q => ba0 q ∨ ba1 q)) (F0 m 41 ls []) := by
  have hx := X.1
  have hb := X.2.1
  have hown := X.2.2.2.2.1
  intro n
  induction n with
  | zero =>
    intro v2 v3 H locs ls ce sl hb1_ hb2_ hW0 hW1 hS hl hf
    exact nomatch hf
  | succ n ih =>
    intro v2 v3 H locs ls ce sl hb1_ hb2_ hW0 hW1 hS hl hf
    unfold hL_alike_41 at hf
    refine lv_iload_n hx hb dL_alike_41 rfl (lv_at hl 3 rfl) ?_
    refine lv_aload_n hx hb dL_alike_42 rfl (lv_at hl 0 rfl) ?_
    refine lv_iconst (v := (0 : Int32)) hx hb dL_alike_43 (by decide) ?_
    refine kA (As := [.ref (ad0 360), .int (0 : Int32)]) (rest := [.int v3]) X (fun q h => Or.inl h) hW0 hS (tI_tryAbout l D cy ad0 ba0 hl0 z0 (0 : Int32)) (vx_cwSW (hh := [(0, 5, 6, 13)]) 2 X.2.2.2.2.2.1 gL_alike_L_tryAbout rfl rfl rfl kdL_tryAbout.2 ⟨(Nat.le_of_ble_eq_true rfl), (Nat.le_of_ble_eq_true rfl)⟩) rfl rfl hl.1 (Nat.le_of_ble_eq_true rfl) ⟨by show _ ≤ 267; omega, by show _ ≤ 1602; omega⟩ dL_alike_44 (fun H locs hW0 hS hz hk => ?_)
    replace hW1 := aR_kept hW1 (fun q h1 h2 => hk q h1 (fun h => hdj q h h2))
    clear hz hk
    refine lv_icmp_ge (tgt := 103) hx hb dL_alike_47 (by decide) (fun c_4 => ?_) (fun c_4 => ?_)
    · replace hf := ite_t c_4 hf
      refine lv_iload_n hx hb dL_alike_103 rfl (lv_at hl 2 rfl) ?_
      obtain ⟨h_5, hf⟩ := chk_some hf
      cases Option.some.inj hf
      exact eKz X (Wd1 := (fun H => aR D cy ad0 ba0 z0 H ∧ aR D cy ad1 ba1 z1 H)) ⟨hW0, hW1⟩ hS (of_decide_eq_true h_5) rfl (by omega) (by omega) dL_alike_104
    · replace hf := ite_f c_4 hf
      refine lv_iload_n hx hb dL_alike_50 rfl (lv_at hl 2 rfl) ?_
      refine lv_if_eq (tgt := 103) hx hb dL_alike_51 (by decide) (fun c_6 => ?_) (fun c_6 => ?_)
      · replace hf := ite_t c_6 hf
        refine lv_iload_n hx hb dL_alike_103 rfl (lv_at hl 2 rfl) ?_
        obtain ⟨h_7, hf⟩ := chk_some hf
        cases Option.some.inj hf
        exact eKz X (Wd1 := (fun H => aR D cy ad0 ba0 z0 H ∧ aR D cy ad1 ba1 z1 H)) ⟨hW0, hW1⟩ hS (of_decide_eq_true h_7) rfl (by omega) (by omega) dL_alike_104
      · replace hf := ite_f c_6 hf
        refine lv_iconst (v := (0 : Int32)) hx hb dL_alike_54 (by decide) ?_
        refine lv_istore (lv' := [(4, .int (0 : Int32)), (0, .ref (ad0 360)), (1, .ref (ad1 360)), (2, .int v2), (3, .int v3)]) hx hb dL_alike_55 hl (by decide) rfl (fun ls hl => ?_)
        exact bL_alike_57 (z0 := z0) (z1 := z1) X hl0 hdj ih 12 v2 v3 (0 : Int32) _ _ _ _ _ (by omega) (by omega) hW0 hW1 hS (lv_sub hl [1, 2, 3, 4, 0] rfl) hf
set_option maxRecDepth 100000 in
set_option maxHeartbeats 4000000 in
theorem bL_alike_4 {p : Program} {l : Launch} {e : Env} {s : State} {m : MethodId} {args : Array Value} {below : List Frame} {meth : Method} {c : Code} {D : va_G} {cy : Nat → ClassId} {ad0 : Nat → Nat} {ba0 : Nat → Prop} {ad1 : Nat → Nat} {ba1 : Nat → Prop} {z0 : aS} {z1 : aS} {res : Int32} (X : teC wsL_alike RL cL_alike 5 (some .boolean) D cy (fun q => ba0 q ∨ ba1 q) p s m args meth c) (hl0 : l.stackTraces = false) (hdj : ∀ q, ba0 q → ¬ ba1 q) : ∀ (n : Nat), ∀ (v2 : Int32) (v3 : Int32) (H : Heap) (locs : List Loc) (ls : Array Slot) (ce sl : Nat), ce + (2 * n + 251) ≤ 267 → sl + (12 * n + 1506) ≤ 1602 → aR D cy ad0 ba0 z0 H → aR D cy ad1 ba1 z1 H → va_S (fun q => ba0 q ∨ ba1 q) s.heap H locs → lv_has ls 5 [(0, .ref (ad0 360)), (1, .ref (ad1 360)), (2, .int v2), (3, .int v3)] → hL_alike_4 z0 z1 n v2 v3 = some res → W p l e (headSpec wsL_alike rmL_alike).room s m args below meth c H locs ce sl (MQ below (va_Qi (fun a (_ : Unit) => a = res) (fun _ t => (fun H => aR D cy ad0 ba0 z0 H ∧ aR D cy ad1 ba1 z1 H) t.heap) (fun q => ba0 q ∨ ba1 q)) args s 267 1602 (fun q => ba0 q ∨ ba1 q)) (F0 m 4 ls []) := by
  have hx := X.1
  have hb := X.2.1
  have hown := X.2.2.2.2.1
  intro n
  induction n with
  | zero =>
    intro v2 v3 H locs ls ce sl hb1_ hb2_ hW0 hW1 hS hl hf
    exact nomatch hf
  | succ n ih =>
    intro v2 v3 H locs ls ce sl hb1_ hb2_ hW0 hW1 hS hl hf
    unfold hL_alike_4 at hf
    refine lv_iload_n hx hb dL_alike_4 rfl (lv_at hl 3 rfl) ?_
    refine lv_bipush (v := (7 : Int32)) hx hb dL_alike_5 (by decide) ?_
    refine lv_icmp_ge (tgt := 39) hx hb dL_alike_7 (by decide) (fun c_1 => ?_) (fun c_1 => ?_)
    · replace hf := ite_t c_1 hf
      refine lv_iconst (v := (0 : Int32)) hx hb dL_alike_39 (by decide) ?_
      refine lv_istore_n (lv' := [(3, .int (0 : Int32)), (0, .ref (ad0 360)), (1, .ref (ad1 360)), (2, .int v2)]) hx hb dL_alike_40 rfl hl (by decide) rfl (fun ls hl => ?_)
      exact bL_alike_41 (z0 := z0) (z1 := z1) X hl0 hdj 10 v2 (0 : Int32) _ _ _ _ _ (by omega) (by omega) hW0 hW1 hS (lv_sub hl [1, 2, 3, 0] rfl) hf
    · replace hf := ite_f c_1 hf
      refine lv_iload_n hx hb dL_alike_10 rfl (lv_at hl 2 rfl) ?_
      refine lv_if_eq (tgt := 31) hx hb dL_alike_11 (by decide) (fun c_2 => ?_) (fun c_2 => ?_)
      · replace hf := ite_t c_2 hf
        refine lv_iconst (v := (0 : Int32)) hx hb dL_alike_31 (by decide) ?_
        refine lv_istore_n (lv' := [(2, .int (0 : Int32)), (0, .ref (ad0 360)), (1, .ref (ad1 360)), (3, .int v3)]) hx hb dL_alike_32 rfl hl (by decide) rfl (fun ls hl => ?_)
        refine lv_iinc (v := (v3 + (1 : Int32))) (lv' := [(3, .int (v3 + (1 : Int32))), (2, .int (0 : Int32)), (0, .ref (ad0 360)), (1, .ref (ad1 360))]) hx hb dL_alike_33 hl (k := 3) rfl rfl (by decide) rfl (fun ls hl => ?_)
        refine lv_goto (tgt := 4) hx hb dL_alike_36 (by decide) ?_
        exact ih (0 : Int32) (v3 + (1 : Int32)) _ _ _ _ _ (by omega) (by omega) hW0 hW1 hS (lv_sub hl [2, 3, 1, 0] rfl) hf
      · replace hf := ite_f c_2 hf
        refine lv_aload_n hx hb dL_alike_14 rfl (lv_at hl 0 rfl) ?_
        refine lv_iload_n hx hb dL_alike_15 rfl (lv_at hl 3 rfl) ?_
        refine kA (As := [.ref (ad0 360), .int v3]) (rest := []) X (fun q h => Or.inl h) hW0 hS (tI_tryAbout l D cy ad0 ba0 hl0 z0 v3) (vx_cwSW (hh := [(0, 5, 6, 13)]) 2 X.2.2.2.2.2.1 gL_alike_L_tryAbout rfl rfl rfl kdL_tryAbout.2 ⟨(Nat.le_of_ble_eq_true rfl), (Nat.le_of_ble_eq_true rfl)⟩) rfl rfl hl.1 (Nat.le_of_ble_eq_true rfl) ⟨by show _ ≤ 267; omega, by show _ ≤ 1602; omega⟩ dL_alike_16 (fun H locs hW0 hS hz hk => ?_)
        replace hW1 := aR_kept hW1 (fun q h1 h2 => hk q h1 (fun h => hdj q h h2))
        clear hz hk
        refine lv_aload_n hx hb dL_alike_19 rfl (lv_at hl 1 rfl) ?_
        refine lv_iload_n hx hb dL_alike_20 rfl (lv_at hl 3 rfl) ?_
        refine kA (As := [.ref (ad1 360), .int v3]) (rest := [.int (A_tryAbout z0 v3)]) X (fun q h => Or.inr h) hW1 hS (tI_tryAbout l D cy ad1 ba1 hl0 z1 v3) (vx_cwSW (hh := [(0, 5, 6, 13)]) 2 X.2.2.2.2.2.1 gL_alike_L_tryAbout rfl rfl rfl kdL_tryAbout.2 ⟨(Nat.le_of_ble_eq_true rfl), (Nat.le_of_ble_eq_true rfl)⟩) rfl rfl hl.1 (Nat.le_of_ble_eq_true rfl) ⟨by show _ ≤ 267; omega, by show _ ≤ 1602; omega⟩ dL_alike_21 (fun H locs hW1 hS hz hk => ?_)
        replace hW0 := aR_kept hW0 (fun q h1 h2 => hk q h1 (hdj q h2))
        clear hz hk
        refine lv_icmp_ne (tgt := 31) hx hb dL_alike_24 (by decide) (fun c_3 => ?_) (fun c_3 => ?_)
        · replace hf := ite_f c_3 hf
          refine lv_iconst (v := (0 : Int32)) hx hb dL_alike_31 (by decide) ?_
          refine lv_istore_n (lv' := [(2, .int (0 : Int32)), (0, .ref (ad0 360)), (1, .ref (ad1 360)), (3, .int v3)]) hx hb dL_alike_32 rfl hl (by decide) rfl (fun ls hl => ?_)
          refine lv_iinc (v := (v3 + (1 : Int32))) (lv' := [(3, .int (v3 + (1 : Int32))), (2, .int (0 : Int32)), (0, .ref (ad0 360)), (1, .ref (ad1 360))]) hx hb dL_alike_33 hl (k := 3) rfl rfl (by decide) rfl (fun ls hl => ?_)
          refine lv_goto (tgt := 4) hx hb dL_alike_36 (by decide) ?_
          exact ih (0 : Int32) (v3 + (1 : Int32)) _ _ _ _ _ (by omega) (by omega) hW0 hW1 hS (lv_sub hl [2, 3, 1, 0] rfl) hf
        · replace hf := ite_t c_3 hf
          refine lv_iconst (v := (1 : Int32)) hx hb dL_alike_27 (by decide) ?_
          refine lv_goto (tgt := 32) hx hb dL_alike_28 (by decide) ?_
          refine lv_istore_n (lv' := [(2, .int (1 : Int32)), (0, .ref (ad0 360)), (1, .ref (ad1 360)), (3, .int v3)]) hx hb dL_alike_32 rfl hl (by decide) rfl (fun ls hl => ?_)
          refine lv_iinc (v := (v3 + (1 : Int32))) (lv' := [(3, .int (v3 + (1 : Int32))), (2, .int (1 : Int32)), (0, .ref (ad0 360)), (1, .ref (ad1 360))]) hx hb dL_alike_33 hl (k := 3) rfl rfl (by decide) rfl (fun ls hl => ?_)
          refine lv_goto (tgt := 4) hx hb dL_alike_36 (by decide) ?_
          exact ih (1 : Int32) (v3 + (1 : Int32)) _ _ _ _ _ (by omega) (by omega) hW0 hW1 hS (lv_sub hl [2, 3, 1, 0] rfl) hf
set_option maxRecDepth 100000 in
set_option maxHeartbeats 4000000 in
theorem bL_alike_0 {p : Program} {l : Launch} {e : Env} {s : State} {m : MethodId} {args : Array Value} {below : List Frame} {meth : Method} {c : Code} {D : va_G} {cy : Nat → ClassId} {ad0 : Nat → Nat} {ba0 : Nat → Prop} {ad1 : Nat → Nat} {ba1 : Nat → Prop} {z0 : aS} {z1 : aS} {res : Int32} (X : teC wsL_alike RL cL_alike 5 (some .boolean) D cy (fun q => ba0 q ∨ ba1 q) p s m args meth c) (hl0 : l.stackTraces = false) (hdj : ∀ q, ba0 q → ¬ ba1 q) : ∀ (H : Heap) (locs : List Loc) (ls : Array Slot) (ce sl : Nat), ce + (267) ≤ 267 → sl + (1602) ≤ 1602 → aR D cy ad0 ba0 z0 H → aR D cy ad1 ba1 z1 H → va_S (fun q => ba0 q ∨ ba1 q) s.heap H locs → lv_has ls 5 [(0, .ref (ad0 360)), (1, .ref (ad1 360))] → hL_alike z0 z1 = some res → W p l e (headSpec wsL_alike rmL_alike).room s m args below meth c H locs ce sl (MQ below (va_Qi (fun a (_ : Unit) => a = res) (fun _ t => (fun H => aR D cy ad0 ba0 z0 H ∧ aR D cy ad1 ba1 z1 H) t.heap) (fun q => ba0 q ∨ ba1 q)) args s 267 1602 (fun q => ba0 q ∨ ba1 q)) (F0 m 0 ls []) := by
  have hx := X.1
  have hb := X.2.1
  have hown := X.2.2.2.2.1
  intro H locs ls ce sl hb1_ hb2_ hW0 hW1 hS hl hf
  unfold hL_alike at hf
  refine lv_iconst (v := (1 : Int32)) hx hb dL_alike_0 (by decide) ?_
  refine lv_istore_n (lv' := [(2, .int (1 : Int32)), (0, .ref (ad0 360)), (1, .ref (ad1 360))]) hx hb dL_alike_1 rfl hl (by decide) rfl (fun ls hl => ?_)
  refine lv_iconst (v := (0 : Int32)) hx hb dL_alike_2 (by decide) ?_
  refine lv_istore_n (lv' := [(3, .int (0 : Int32)), (2, .int (1 : Int32)), (0, .ref (ad0 360)), (1, .ref (ad1 360))]) hx hb dL_alike_3 rfl hl (by decide) rfl (fun ls hl => ?_)
  exact bL_alike_4 (z0 := z0) (z1 := z1) X hl0 hdj 8 (1 : Int32) (0 : Int32) _ _ _ _ _ (by omega) (by omega) hW0 hW1 hS (lv_sub hl [2, 3, 1, 0] rfl) hf
theorem zcL_alike (l : Launch) (D : va_G) (cy : Nat → ClassId) (ad0 : Nat → Nat) (ba0 : Nat → Prop) (ad1 : Nat → Nat) (ba1 : Nat → Prop) (hl0 : l.stackTraces = false) (hdj : ∀ q, ba0 q → ¬ ba1 q) {z0 : aS} {z1 : aS} (res : Int32) (hf : hL_alike z0 z1 = some res) : aJ l yL_alike wsL_alike rmL_alike 267 1602 D cy (fun q => ba0 q ∨ ba1 q) (fun H => aR D cy ad0 ba0 z0 H ∧ aR D cy ad1 ba1 z1 H) false 0 0 (fun _ => 0) [.ref (ad0 360), .ref (ad1 360)] res (fun H => aR D cy ad0 ba0 z0 H ∧ aR D cy ad1 ba1 z1 H) :=
  a_of (by decide) rfl (Nat.le_of_ble_eq_true rfl) (fun p e s m below meth c ls X hW hX hS hl => bL_alike_0 (z0 := z0) (z1 := z1) X hl0 hdj _ _ _ 0 0 (Nat.le_of_ble_eq_true rfl) (Nat.le_of_ble_eq_true rfl) hW.1 hW.2 hS hl hf)
