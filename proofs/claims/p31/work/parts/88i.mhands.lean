abbrev rmL_hands : Room := { frames := 11, cells := 8861, slots := 53166, locals := 213 }
theorem kdL_hands : yL_hands.cls = RL ∧ yL_hands.cls ≠ "java/lang/invoke/MethodHandle" ∧ yL_hands.cls ≠ "java/lang/invoke/VarHandle" ∧ (parseMethodDescriptor yL_hands.desc).map (fun d => d.parameters.length) = some 2 := by decide +kernel
theorem wL_hands_18 : Cond.constant RL 18 (-99003) ∈ wsL_hands := by decide +kernel
set_option maxRecDepth 100000 in
set_option maxHeartbeats 4000000 in
theorem bL_hands_1142 {p : Program} {l : Launch} {e : Env} {s : State} {m : MethodId} {args : Array Value} {below : List Frame} {meth : Method} {c : Code} {D : va_G} {cy : Nat → ClassId} {ad0 : Nat → Nat} {ba0 : Nat → Prop} {x1 : Int32} {res : (Int32 × aS)} (X : teC wsL_hands RL cL_hands 26 (some .boolean) D cy ba0 p s m args meth c) (hl0 : l.stackTraces = false) {n1089 : Nat} {q1089 : aS → Int32 → Int32 → Int32 → Int32 → Int32 → Int32 → Option (Int32 × aS)} (hq1089 : ∀ (z0 : aS) (v3 : Int32) (v4 : Int32) (v6 : Int32) (v21 : Int32) (v22 : Int32) (v24 : Int32) (H : Heap) (locs : List Loc) (ls : Array Slot) (ce sl : Nat), ce + (3 * n1089 + 5) ≤ 8861 → sl + (18 * n1089 + 30) ≤ 53166 → aR D cy ad0 ba0 z0 H → va_S ba0 s.heap H locs → lv_has ls 26 [(0, .ref (ad0 360)), (3, .int v3), (4, .int v4), (6, .int v6), (21, .int v21), (22, .int v22), (24, .int v24)] → q1089 z0 v3 v4 v6 v21 v22 v24 = some res → W p l e (headSpec wsL_hands rmL_hands).room s m args below meth c H locs ce sl (MQ below (va_Qi (fun a (_ : Unit) => a = res.1) (fun _ t => (aR D cy ad0 ba0 res.2) t.heap) ba0) args s 8861 53166 ba0) (F0 m 1089 ls [])) : ∀ (z0 : aS) (v3 : Int32) (v4 : Int32) (v21 : Int32) (v22 : Int32) (v24 : Int32) (H : Heap) (locs : List Loc) (ls : Array Slot) (ce sl : Nat), ce + (3 * n1089 + 5) ≤ 8861 → sl + (18 * n1089 + 30) ≤ 53166 → aR D cy ad0 ba0 z0 H → va_S ba0 s.heap H locs → lv_has ls 26 [(0, .ref (ad0 360)), (3, .int v3), (4, .int v4), (21, .int v21), (22, .int v22), (24, .int v24)] → hL_hands_1142 x1 q1089 z0 v3 v4 v21 v22 v24 = some res → W p l e (headSpec wsL_hands rmL_hands).room s m args below meth c H locs ce sl (MQ below (va_Qi (fun a (_ : Unit) => a = res.1) (fun _ t => (aR D cy ad0 ba0 res.2) t.heap) ba0) args s 8861 53166 ba0) (F0 m 1142 ls []) := by
  have hx := X.1
  have hb := X.2.1
  have hown := X.2.2.2.2.1
  intro z0 v3 v4 v21 v22 v24 H locs ls ce sl hb1_ hb2_ hW0 hS hl hf
  unfold hL_hands_1142 at hf
  refine lv_iconst (v := (0 : Int32)) hx hb dL_hands_1142 (by decide) ?_
  refine lv_istore (lv' := [(6, .int (0 : Int32)), (0, .ref (ad0 360)), (3, .int v3), (4, .int v4), (21, .int v21), (22, .int v22), (24, .int v24)]) hx hb dL_hands_1143 hl (by decide) rfl (fun ls hl => ?_)
  refine lv_iinc (v := (v24 + (1 : Int32))) (lv' := [(24, .int (v24 + (1 : Int32))), (6, .int (0 : Int32)), (0, .ref (ad0 360)), (3, .int v3), (4, .int v4), (21, .int v21), (22, .int v22)]) hx hb dL_hands_1145 hl (k := 6) rfl rfl (by decide) rfl (fun ls hl => ?_)
  refine lv_goto (tgt := 1089) hx hb dL_hands_1148 (by decide) ?_
  exact hq1089 z0 v3 v4 (0 : Int32) v21 v22 (v24 + (1 : Int32)) _ _ _ _ _ (by omega) (by omega) hW0 hS (lv_sub hl [2, 3, 4, 1, 5, 6, 0] rfl) hf
set_option maxRecDepth 100000 in
set_option maxHeartbeats 4000000 in
theorem bL_hands_1190 {p : Program} {l : Launch} {e : Env} {s : State} {m : MethodId} {args : Array Value} {below : List Frame} {meth : Method} {c : Code} {D : va_G} {cy : Nat → ClassId} {ad0 : Nat → Nat} {ba0 : Nat → Prop} {x1 : Int32} {res : (Int32 × aS)} (X : teC wsL_hands RL cL_hands 26 (some .boolean) D cy ba0 p s m args meth c) (hl0 : l.stackTraces = false) : ∀ (z0 : aS) (v3 : Int32) (v6 : Int32) (H : Heap) (locs : List Loc) (ls : Array Slot) (ce sl : Nat), ce + (2) ≤ 8861 → sl + (12) ≤ 53166 → aR D cy ad0 ba0 z0 H → va_S ba0 s.heap H locs → lv_has ls 26 [(0, .ref (ad0 360)), (3, .int v3), (6, .int v6)] → hL_hands_1190 x1 z0 v3 v6 = some res → W p l e (headSpec wsL_hands rmL_hands).room s m args below meth c H locs ce sl (MQ below (va_Qi (fun a (_ : Unit) => a = res.1) (fun _ t => (aR D cy ad0 ba0 res.2) t.heap) ba0) args s 8861 53166 ba0) (F0 m 1190 ls []) := by
  have hx := X.1
  have hb := X.2.1
  have hown := X.2.2.2.2.1
  intro z0 v3 v6 H locs ls ce sl hb1_ hb2_ hW0 hS hl hf
  unfold hL_hands_1190 at hf
  refine lv_iload hx hb dL_hands_1190 (lv_at hl 2 rfl) ?_
  refine lv_if_eq (tgt := 1217) hx hb dL_hands_1192 (by decide) (fun c_132 => ?_) (fun c_132 => ?_)
  · replace hf := ite_t c_132 hf
    refine lv_iconst (v := (0 : Int32)) hx hb dL_hands_1217 (by decide) ?_
    cases Option.some.inj hf
    exact eKz (v := (0 : Int32)) X hW0 hS (by decide) rfl (by omega) (by omega) dL_hands_1218
  · replace hf := ite_f c_132 hf
    refine lv_aload_n hx hb dL_hands_1195 rfl (lv_at hl 0 rfl) ?_
    refine lv_iconst (v := (0 : Int32)) hx hb dL_hands_1196 (by decide) ?_
    obtain ⟨r_133, z0_18, hq_134, hf⟩ := bd2_some hf
    refine kA (As := [.ref (ad0 360), .int (0 : Int32)]) (rest := []) X (fun q h => h) hW0 hS (tI_tryRestore l D cy ad0 ba0 hl0 hq_134) (vx_cwSW (hh := [(0, 5, 6, 30), (0, 5, 10, 16)]) 2 X.2.2.2.2.2.1 gL_hands_L_tryRestore rfl rfl rfl kdL_tryRestore.2 ⟨(Nat.le_of_ble_eq_true rfl), (Nat.le_of_ble_eq_true rfl)⟩) rfl rfl hl.1 (Nat.le_of_ble_eq_true rfl) ⟨by show _ ≤ 8861; omega, by show _ ≤ 53166; omega⟩ dL_hands_1197 (fun H locs hW0 hS hz hk => ?_)
    clear hz hk
    refine lv_iload_n hx hb dL_hands_1200 rfl (lv_at hl 1 rfl) ?_
    refine lv_icmp_ne (tgt := 1217) hx hb dL_hands_1201 (by decide) (fun c_135 => ?_) (fun c_135 => ?_)
    · replace hf := ite_f c_135 hf
      refine lv_iconst (v := (0 : Int32)) hx hb dL_hands_1217 (by decide) ?_
      cases Option.some.inj hf
      exact eKz (v := (0 : Int32)) X hW0 hS (by decide) rfl (by omega) (by omega) dL_hands_1218
    · replace hf := ite_t c_135 hf
      refine lv_aload_n hx hb dL_hands_1204 rfl (lv_at hl 0 rfl) ?_
      obtain ⟨r_136, z0_19, hq_137, hf⟩ := bd2_some hf
      refine kA (As := [.ref (ad0 360)]) (rest := []) X (fun q h => h) hW0 hS (tI_tryUndo l D cy ad0 ba0 hl0 hq_137) (vx_cwSW (hh := [(0, 4, 5, 16)]) 1 X.2.2.2.2.2.1 gL_hands_L_tryUndo rfl rfl rfl kdL_tryUndo.2 ⟨(Nat.le_of_ble_eq_true rfl), (Nat.le_of_ble_eq_true rfl)⟩) rfl rfl hl.1 (Nat.le_of_ble_eq_true rfl) ⟨by show _ ≤ 8861; omega, by show _ ≤ 53166; omega⟩ dL_hands_1205 (fun H locs hW0 hS hz hk => ?_)
      clear hz hk
      refine lv_ldc (v := (-99003 : Int32)) hx hb hown (X.2.2.2.2.2.1 _ wL_hands_18) dL_hands_1208 ?_
      refine lv_icmp_ne (tgt := 1217) hx hb dL_hands_1210 (by decide) (fun c_138 => ?_) (fun c_138 => ?_)
      · replace hf := ite_f c_138 hf
        refine lv_iconst (v := (0 : Int32)) hx hb dL_hands_1217 (by decide) ?_
        cases Option.some.inj hf
        exact eKz (v := (0 : Int32)) X hW0 hS (by decide) rfl (by omega) (by omega) dL_hands_1218
      · replace hf := ite_t c_138 hf
        refine lv_iconst (v := (1 : Int32)) hx hb dL_hands_1213 (by decide) ?_
        refine lv_goto (tgt := 1218) hx hb dL_hands_1214 (by decide) ?_
        cases Option.some.inj hf
        exact eKz (v := (1 : Int32)) X hW0 hS (by decide) rfl (by omega) (by omega) dL_hands_1218
set_option maxRecDepth 100000 in
set_option maxHeartbeats 4000000 in
theorem bL_hands_1089 {p : Program} {l : Launch} {e : Env} {s : State} {m : MethodId} {args : Array Value} {below : List Frame} {meth : Method} {c : Code} {D : va_G} {cy : Nat → ClassId} {ad0 : Nat → Nat} {ba0 : Nat → Prop} {x1 : Int32} {res : (Int32 × aS)} (X : teC wsL_hands RL cL_hands 26 (some .boolean) D cy ba0 p s m args meth c) (hl0 : l.stackTraces = false) : ∀ (n : Nat), ∀ (z0 : aS) (v3 : Int32) (v4 : Int32) (v6 : Int32) (v21 : Int32) (v22 : Int32) (v24 : Int32) (H : Heap) (locs : List Loc) (ls : Array Slot) (ce sl : Nat), ce + (3 * n + 5) ≤ 8861 → sl + (18 * n + 30) ≤ 53166 → aR D cy ad0 ba0 z0 H → va_S ba0 s.heap H locs → lv_has ls 26 [(0, .ref (ad0 360)), (3, .int v3), (4, .int v4), (6, .int v6), (21, .int v21), (22, .int v22), (24, .int v24)] → hL_hands_1089 x1 n z0 v3 v4 v6 v21 v22 v24 = some res → W p l e (headSpec wsL_hands rmL_hands).room s m args below meth c H locs ce sl (MQ below (va_Qi (fun a (_ : Unit) => a = res.1) (fun _ t => (aR D cy ad0 ba0 res.2) t.heap) ba0) args s 8861 53166 ba0) (F0 m 1089 ls []) := by
  have hx := X.1
  have hb := X.2.1
  have hown := X.2.2.2.2.1
  intro n
  induction n with
  | zero =>
    intro z0 v3 v4 v6 v21 v22 v24 H locs ls ce sl hb1_ hb2_ hW0 hS hl hf
    exact nomatch hf
  | succ n ih =>
    intro z0 v3 v4 v6 v21 v22 v24 H locs ls ce sl hb1_ hb2_ hW0 hS hl hf
    unfold hL_hands_1089 at hf
    refine lv_iload hx hb dL_hands_1089 (lv_at hl 6 rfl) ?_
    refine lv_iload hx hb dL_hands_1091 (lv_at hl 5 rfl) ?_
    refine lv_icmp_ge (tgt := 1151) hx hb dL_hands_1093 (by decide) (fun c_139 => ?_) (fun c_139 => ?_)
    · replace hf := ite_t c_139 hf
      refine lv_iload hx hb dL_hands_1151 (lv_at hl 3 rfl) ?_
      refine lv_if_eq (tgt := 1187) hx hb dL_hands_1153 (by decide) (fun c_140 => ?_) (fun c_140 => ?_)
      · replace hf := ite_t c_140 hf
        refine lv_iconst (v := (0 : Int32)) hx hb dL_hands_1187 (by decide) ?_
        refine lv_istore (lv' := [(6, .int (0 : Int32)), (0, .ref (ad0 360)), (3, .int v3), (4, .int v4), (21, .int v21), (22, .int v22), (24, .int v24)]) hx hb dL_hands_1188 hl (by decide) rfl (fun ls hl => ?_)
        exact bL_hands_1190 (x1 := x1) X hl0 z0 v3 (0 : Int32) _ _ _ _ _ (by omega) (by omega) hW0 hS (lv_sub hl [1, 2, 0] rfl) hf
      · replace hf := ite_f c_140 hf
        refine lv_aload_n hx hb dL_hands_1156 rfl (lv_at hl 0 rfl) ?_
        refine lv_iload hx hb dL_hands_1157 (lv_at hl 2 rfl) ?_
        refine lv_aload_n hx hb dL_hands_1159 rfl (lv_at hl 0 rfl) ?_
        refine lv_iload hx hb dL_hands_1160 (lv_at hl 2 rfl) ?_
        refine lv_iconst (v := (4 : Int32)) hx hb dL_hands_1162 (by decide) ?_
        refine kA (As := [.ref (ad0 360), .int v4, .int (4 : Int32)]) (rest := [.int v4, .ref (ad0 360)]) X (fun q h => h) hW0 hS (tI_tryMember l D cy ad0 ba0 hl0 z0 v4 (4 : Int32)) (vx_cwSW (hh := [(0, 6, 7, 30), (0, 6, 11, 13)]) 3 X.2.2.2.2.2.1 gL_hands_L_tryMember rfl rfl rfl kdL_tryMember.2 ⟨(Nat.le_of_ble_eq_true rfl), (Nat.le_of_ble_eq_true rfl)⟩) rfl rfl hl.1 (Nat.le_of_ble_eq_true rfl) ⟨by show _ ≤ 8861; omega, by show _ ≤ 53166; omega⟩ dL_hands_1163 (fun H locs hW0 hS hz hk => ?_)
        clear hz hk
        refine kA (As := [.ref (ad0 360), .int v4, .int (A_tryMember z0 v4 (4 : Int32))]) (rest := []) X (fun q h => h) hW0 hS (tI_tryMember l D cy ad0 ba0 hl0 z0 v4 (A_tryMember z0 v4 (4 : Int32))) (vx_cwSW (hh := [(0, 6, 7, 30), (0, 6, 11, 13)]) 3 X.2.2.2.2.2.1 gL_hands_L_tryMember rfl rfl rfl kdL_tryMember.2 ⟨(Nat.le_of_ble_eq_true rfl), (Nat.le_of_ble_eq_true rfl)⟩) rfl rfl hl.1 (Nat.le_of_ble_eq_true rfl) ⟨by show _ ≤ 8861; omega, by show _ ≤ 53166; omega⟩ dL_hands_1166 (fun H locs hW0 hS hz hk => ?_)
        clear hz hk
        refine lv_iload hx hb dL_hands_1169 (lv_at hl 4 rfl) ?_
        refine lv_icmp_lt (tgt := 1187) hx hb dL_hands_1171 (by decide) (fun c_141 => ?_) (fun c_141 => ?_)
        · replace hf := ite_t c_141 hf
          refine lv_iconst (v := (0 : Int32)) hx hb dL_hands_1187 (by decide) ?_
          refine lv_istore (lv' := [(6, .int (0 : Int32)), (0, .ref (ad0 360)), (3, .int v3), (4, .int v4), (21, .int v21), (22, .int v22), (24, .int v24)]) hx hb dL_hands_1188 hl (by decide) rfl (fun ls hl => ?_)
          exact bL_hands_1190 (x1 := x1) X hl0 z0 v3 (0 : Int32) _ _ _ _ _ (by omega) (by omega) hW0 hS (lv_sub hl [1, 2, 0] rfl) hf
        · replace hf := ite_f c_141 hf
          refine lv_aload_n hx hb dL_hands_1174 rfl (lv_at hl 0 rfl) ?_
          refine lv_iconst (v := (0 : Int32)) hx hb dL_hands_1175 (by decide) ?_
          obtain ⟨r_142, z0_20, hq_143, hf⟩ := bd2_some hf
          refine kA (As := [.ref (ad0 360), .int (0 : Int32)]) (rest := []) X (fun q h => h) hW0 hS (tI_tryRestore l D cy ad0 ba0 hl0 hq_143) (vx_cwSW (hh := [(0, 5, 6, 30), (0, 5, 10, 16)]) 2 X.2.2.2.2.2.1 gL_hands_L_tryRestore rfl rfl rfl kdL_tryRestore.2 ⟨(Nat.le_of_ble_eq_true rfl), (Nat.le_of_ble_eq_true rfl)⟩) rfl rfl hl.1 (Nat.le_of_ble_eq_true rfl) ⟨by show _ ≤ 8861; omega, by show _ ≤ 53166; omega⟩ dL_hands_1176 (fun H locs hW0 hS hz hk => ?_)
          clear hz hk
          refine lv_iload_n hx hb dL_hands_1179 rfl (lv_at hl 1 rfl) ?_
          refine lv_icmp_ne (tgt := 1187) hx hb dL_hands_1180 (by decide) (fun c_144 => ?_) (fun c_144 => ?_)
          · replace hf := ite_f c_144 hf
            refine lv_iconst (v := (0 : Int32)) hx hb dL_hands_1187 (by decide) ?_
            refine lv_istore (lv' := [(6, .int (0 : Int32)), (0, .ref (ad0 360)), (3, .int v3), (4, .int v4), (21, .int v21), (22, .int v22), (24, .int v24)]) hx hb dL_hands_1188 hl (by decide) rfl (fun ls hl => ?_)
            exact bL_hands_1190 (x1 := x1) X hl0 z0_20 v3 (0 : Int32) _ _ _ _ _ (by omega) (by omega) hW0 hS (lv_sub hl [1, 2, 0] rfl) hf
          · replace hf := ite_t c_144 hf
            refine lv_iconst (v := (1 : Int32)) hx hb dL_hands_1183 (by decide) ?_
            refine lv_goto (tgt := 1188) hx hb dL_hands_1184 (by decide) ?_
            refine lv_istore (lv' := [(6, .int (1 : Int32)), (0, .ref (ad0 360)), (3, .int v3), (4, .int v4), (21, .int v21), (22, .int v22), (24, .int v24)]) hx hb dL_hands_1188 hl (by decide) rfl (fun ls hl => ?_)
            exact bL_hands_1190 (x1 := x1) X hl0 z0_20 v3 (1 : Int32) _ _ _ _ _ (by omega) (by omega) hW0 hS (lv_sub hl [1, 2, 0] rfl) hf
    · replace hf := ite_f c_139 hf
      refine lv_aload_n hx hb dL_hands_1096 rfl (lv_at hl 0 rfl) ?_
      obtain ⟨r_145, z0_21, hq_146, hf⟩ := bd2_some hf
      refine kD (As := []) (rest := []) X (fun q h => h) hW0 hS (tD_match l D cy ad0 ba0 hq_146) (cwV 0 X.2.2.2.2.2.1 gL_hands_X5_match rfl rfl rfl kdX5_match ⟨(Nat.le_of_ble_eq_true rfl), (Nat.le_of_ble_eq_true rfl)⟩) rfl rfl hl.1 (Nat.le_of_ble_eq_true rfl) ⟨by show _ ≤ 8861; omega, by show _ ≤ 53166; omega⟩ dL_hands_1097 (fun H locs hW0 hS hz hk => ?_)
      clear hz hk
      refine lv_istore (lv' := [(25, .int r_145), (0, .ref (ad0 360)), (3, .int v3), (4, .int v4), (6, .int v6), (21, .int v21), (22, .int v22), (24, .int v24)]) hx hb dL_hands_1100 hl (by decide) rfl (fun ls hl => ?_)
      refine lv_iload hx hb dL_hands_1102 (lv_at hl 4 rfl) ?_
      refine lv_if_eq (tgt := 1142) hx hb dL_hands_1104 (by decide) (fun c_147 => ?_) (fun c_147 => ?_)
      · replace hf := ite_t c_147 hf
        exact bL_hands_1142 (x1 := x1) X hl0 ih z0_21 v3 v4 v21 v22 v24 _ _ _ _ _ (by omega) (by omega) hW0 hS (lv_sub hl [1, 2, 3, 5, 6, 7] rfl) hf
      · replace hf := ite_f c_147 hf
        refine lv_iload hx hb dL_hands_1107 (lv_at hl 0 rfl) ?_
        refine lv_if_lt (tgt := 1142) hx hb dL_hands_1109 (by decide) (fun c_148 => ?_) (fun c_148 => ?_)
        · replace hf := ite_t c_148 hf
          exact bL_hands_1142 (x1 := x1) X hl0 ih z0_21 v3 v4 v21 v22 v24 _ _ _ _ _ (by omega) (by omega) hW0 hS (lv_sub hl [1, 2, 3, 5, 6, 7] rfl) hf
        · replace hf := ite_f c_148 hf
          refine lv_aload_n hx hb dL_hands_1112 rfl (lv_at hl 1 rfl) ?_
          refine lv_iload hx hb dL_hands_1113 (lv_at hl 3 rfl) ?_
          refine lv_aload_n hx hb dL_hands_1115 rfl (lv_at hl 1 rfl) ?_
          refine lv_iload hx hb dL_hands_1116 (lv_at hl 3 rfl) ?_
          refine lv_iconst (v := (4 : Int32)) hx hb dL_hands_1118 (by decide) ?_
          refine kA (As := [.ref (ad0 360), .int v4, .int (4 : Int32)]) (rest := [.int v4, .ref (ad0 360)]) X (fun q h => h) hW0 hS (tI_tryMember l D cy ad0 ba0 hl0 z0_21 v4 (4 : Int32)) (vx_cwSW (hh := [(0, 6, 7, 30), (0, 6, 11, 13)]) 3 X.2.2.2.2.2.1 gL_hands_L_tryMember rfl rfl rfl kdL_tryMember.2 ⟨(Nat.le_of_ble_eq_true rfl), (Nat.le_of_ble_eq_true rfl)⟩) rfl rfl hl.1 (Nat.le_of_ble_eq_true rfl) ⟨by show _ ≤ 8861; omega, by show _ ≤ 53166; omega⟩ dL_hands_1119 (fun H locs hW0 hS hz hk => ?_)
          clear hz hk
          refine kA (As := [.ref (ad0 360), .int v4, .int (A_tryMember z0_21 v4 (4 : Int32))]) (rest := []) X (fun q h => h) hW0 hS (tI_tryMember l D cy ad0 ba0 hl0 z0_21 v4 (A_tryMember z0_21 v4 (4 : Int32))) (vx_cwSW (hh := [(0, 6, 7, 30), (0, 6, 11, 13)]) 3 X.2.2.2.2.2.1 gL_hands_L_tryMember rfl rfl rfl kdL_tryMember.2 ⟨(Nat.le_of_ble_eq_true rfl), (Nat.le_of_ble_eq_true rfl)⟩) rfl rfl hl.1 (Nat.le_of_ble_eq_true rfl) ⟨by show _ ≤ 8861; omega, by show _ ≤ 53166; omega⟩ dL_hands_1122 (fun H locs hW0 hS hz hk => ?_)
          clear hz hk
          refine lv_iload hx hb dL_hands_1125 (lv_at hl 5 rfl) ?_
          refine lv_icmp_ge (tgt := 1142) hx hb dL_hands_1127 (by decide) (fun c_149 => ?_) (fun c_149 => ?_)
          · replace hf := ite_t c_149 hf
            exact bL_hands_1142 (x1 := x1) X hl0 ih z0_21 v3 v4 v21 v22 v24 _ _ _ _ _ (by omega) (by omega) hW0 hS (lv_sub hl [1, 2, 3, 5, 6, 7] rfl) hf
          · replace hf := ite_f c_149 hf
            refine lv_aload_n hx hb dL_hands_1130 rfl (lv_at hl 1 rfl) ?_
            refine lv_iconst (v := (0 : Int32)) hx hb dL_hands_1131 (by decide) ?_
            obtain ⟨r_150, z0_22, hq_151, hf⟩ := bd2_some hf
            refine kA (As := [.ref (ad0 360), .int (0 : Int32)]) (rest := []) X (fun q h => h) hW0 hS (tI_tryWeek l D cy ad0 ba0 hl0 hq_151) (vx_cwSW (hh := [(0, 5, 6, 13)]) 2 X.2.2.2.2.2.1 gL_hands_L_tryWeek rfl rfl rfl kdL_tryWeek.2 ⟨(Nat.le_of_ble_eq_true rfl), (Nat.le_of_ble_eq_true rfl)⟩) rfl rfl hl.1 (Nat.le_of_ble_eq_true rfl) ⟨by show _ ≤ 8861; omega, by show _ ≤ 53166; omega⟩ dL_hands_1132 (fun H locs hW0 hS hz hk => ?_)
            clear hz hk
            refine lv_if_lt (tgt := 1142) hx hb dL_hands_1135 (by decide) (fun c_152 => ?_) (fun c_152 => ?_)
            · replace hf := ite_t c_152 hf
              exact bL_hands_1142 (x1 := x1) X hl0 ih z0_22 v3 v4 v21 v22 v24 _ _ _ _ _ (by omega) (by omega) hW0 hS (lv_sub hl [1, 2, 3, 5, 6, 7] rfl) hf
            · replace hf := ite_f c_152 hf
              refine lv_iconst (v := (1 : Int32)) hx hb dL_hands_1138 (by decide) ?_
              refine lv_goto (tgt := 1143) hx hb dL_hands_1139 (by decide) ?_
              refine lv_istore (lv' := [(6, .int (1 : Int32)), (25, .int r_145), (0, .ref (ad0 360)), (3, .int v3), (4, .int v4), (21, .int v21), (22, .int v22), (24, .int v24)]) hx hb dL_hands_1143 hl (by decide) rfl (fun ls hl => ?_)
              refine lv_iinc (v := (v24 + (1 : Int32))) (lv' := [(24, .int (v24 + (1 : Int32))), (6, .int (1 : Int32)), (25, .int r_145), (0, .ref (ad0 360)), (3, .int v3), (4, .int v4), (21, .int v21), (22, .int v22)]) hx hb dL_hands_1145 hl (k := 7) rfl rfl (by decide) rfl (fun ls hl => ?_)
              refine lv_goto (tgt := 1089) hx hb dL_hands_1148 (by decide) ?_
              exact ih z0_22 v3 v4 (1 : Int32) v21 v22 (v24 + (1 : Int32)) _ _ _ _ _ (by omega) (by omega) hW0 hS (lv_sub hl [3, 4, 5, 1, 6, 7, 0] rfl) hf
set_option maxRecDepth 100000 in
set_option maxHeartbeats 4000000 in
theorem bL_hands_1067 {p : Program} {l : Launch} {e : Env} {s : State} {m : MethodId} {args : Array Value} {below : List Frame} {meth : Method} {c : Code} {D : va_G} {cy : Nat → ClassId} {ad0 : Nat → Nat} {ba0 : Nat → Prop} {x1 : Int32} {res : (Int32 × aS)} (X : teC wsL_hands RL cL_hands 26 (some .boolean) D cy ba0 p s m args meth c) (hl0 : l.stackTraces = false) : ∀ (z0 : aS) (v3 : Int32) (v4 : Int32) (v21 : Int32) (v22 : Int32) (y0 : Int32) (H : Heap) (locs : List Loc) (ls : Array Slot) (ce sl : Nat), ce + (65) ≤ 8861 → sl + (390) ≤ 53166 → aR D cy ad0 ba0 z0 H → va_S ba0 s.heap H locs → lv_has ls 26 [(0, .ref (ad0 360)), (3, .int v3), (4, .int v4), (21, .int v21), (22, .int v22)] → hL_hands_1067 x1 z0 v3 v4 v21 v22 y0 = some res → W p l e (headSpec wsL_hands rmL_hands).room s m args below meth c H locs ce sl (MQ below (va_Qi (fun a (_ : Unit) => a = res.1) (fun _ t => (aR D cy ad0 ba0 res.2) t.heap) ba0) args s 8861 53166 ba0) (F0 m 1067 ls [.int y0]) := by
  have hx := X.1
  have hb := X.2.1
  have hown := X.2.2.2.2.1
  intro z0 v3 v4 v21 v22 y0 H locs ls ce sl hb1_ hb2_ hW0 hS hl hf
  unfold hL_hands_1067 at hf
  refine lv_istore (lv' := [(6, .int y0), (0, .ref (ad0 360)), (3, .int v3), (4, .int v4), (21, .int v21), (22, .int v22)]) hx hb dL_hands_1067 hl (by decide) rfl (fun ls hl => ?_)
  refine lv_iload hx hb dL_hands_1069 (lv_at hl 5 rfl) ?_
  refine lv_if_le (tgt := 1190) hx hb dL_hands_1071 (by decide) (fun c_126 => ?_) (fun c_126 => ?_)
  · replace hf := ite_t c_126 hf
    exact bL_hands_1190 (x1 := x1) X hl0 z0 v3 y0 _ _ _ _ _ (by omega) (by omega) hW0 hS (lv_sub hl [1, 2, 0] rfl) hf
  · replace hf := ite_f c_126 hf
    refine lv_iload hx hb dL_hands_1074 (lv_at hl 5 rfl) ?_
    refine lv_bipush (v := (20 : Int32)) hx hb dL_hands_1076 (by decide) ?_
    refine lv_icmp_ge (tgt := 1190) hx hb dL_hands_1078 (by decide) (fun c_127 => ?_) (fun c_127 => ?_)
    · replace hf := ite_t c_127 hf
      exact bL_hands_1190 (x1 := x1) X hl0 z0 v3 y0 _ _ _ _ _ (by omega) (by omega) hW0 hS (lv_sub hl [1, 2, 0] rfl) hf
    · replace hf := ite_f c_127 hf
      refine lv_iload hx hb dL_hands_1081 (lv_at hl 0 rfl) ?_
      refine lv_if_eq (tgt := 1190) hx hb dL_hands_1083 (by decide) (fun c_128 => ?_) (fun c_128 => ?_)
      · replace hf := ite_t c_128 hf
        exact bL_hands_1190 (x1 := x1) X hl0 z0 v3 y0 _ _ _ _ _ (by omega) (by omega) hW0 hS (lv_sub hl [1, 2, 0] rfl) hf
      · replace hf := ite_f c_128 hf
        refine lv_iconst (v := (0 : Int32)) hx hb dL_hands_1086 (by decide) ?_
        refine lv_istore (lv' := [(24, .int (0 : Int32)), (6, .int y0), (0, .ref (ad0 360)), (3, .int v3), (4, .int v4), (21, .int v21), (22, .int v22)]) hx hb dL_hands_1087 hl (by decide) rfl (fun ls hl => ?_)
        exact bL_hands_1089 (x1 := x1) X hl0 20 z0 v3 v4 y0 v21 v22 (0 : Int32) _ _ _ _ _ (by omega) (by omega) hW0 hS (lv_sub hl [2, 3, 4, 1, 5, 6, 0] rfl) hf
set_option maxRecDepth 100000 in
set_option maxHeartbeats 4000000 in
theorem bL_hands_1045 {p : Program} {l : Launch} {e : Env} {s : State} {m : MethodId} {args : Array Value} {below : List Frame} {meth : Method} {c : Code} {D : va_G} {cy : Nat → ClassId} {ad0 : Nat → Nat} {ba0 : Nat → Prop} {x1 : Int32} {res : (Int32 × aS)} (X : teC wsL_hands RL cL_hands 26 (some .boolean) D cy ba0 p s m args meth c) (hl0 : l.stackTraces = false) : ∀ (z0 : aS) (v3 : Int32) (v4 : Int32) (v14 : Int32) (v21 : Int32) (v22 : Int32) (H : Heap) (locs : List Loc) (ls : Array Slot) (ce sl : Nat), ce + (66) ≤ 8861 → sl + (396) ≤ 53166 → aR D cy ad0 ba0 z0 H → va_S ba0 s.heap H locs → lv_has ls 26 [(0, .ref (ad0 360)), (3, .int v3), (4, .int v4), (14, .int v14), (21, .int v21), (22, .int v22)] → hL_hands_1045 x1 z0 v3 v4 v14 v21 v22 = some res → W p l e (headSpec wsL_hands rmL_hands).room s m args below meth c H locs ce sl (MQ below (va_Qi (fun a (_ : Unit) => a = res.1) (fun _ t => (aR D cy ad0 ba0 res.2) t.heap) ba0) args s 8861 53166 ba0) (F0 m 1045 ls []) := by
  have hx := X.1
  have hb := X.2.1
  have hown := X.2.2.2.2.1
  intro z0 v3 v4 v14 v21 v22 H locs ls ce sl hb1_ hb2_ hW0 hS hl hf
  unfold hL_hands_1045 at hf
  refine lv_aload_n hx hb dL_hands_1045 rfl (lv_at hl 0 rfl) ?_
  refine lv_iload hx hb dL_hands_1046 (lv_at hl 2 rfl) ?_
  refine lv_iconst (v := (0 : Int32)) hx hb dL_hands_1048 (by decide) ?_
  refine lv_sipush (v := (511 : Int32)) hx hb dL_hands_1049 (by decide) ?_
  refine lv_bipush (v := (6 : Int32)) hx hb dL_hands_1052 (by decide) ?_
  refine kA (As := [.ref (ad0 360), .int v4, .int (0 : Int32), .int (511 : Int32), .int (6 : Int32)]) (rest := []) X (fun q h => h) hW0 hS (tI_tryAhead l D cy ad0 ba0 hl0 z0 v4 (0 : Int32) (511 : Int32) (6 : Int32)) (vx_cwSW (hh := [(0, 9, 10, 30), (0, 9, 15, 13)]) 5 X.2.2.2.2.2.1 gL_hands_L_tryAhead rfl rfl rfl kdL_tryAhead.2 ⟨(Nat.le_of_ble_eq_true rfl), (Nat.le_of_ble_eq_true rfl)⟩) rfl rfl hl.1 (Nat.le_of_ble_eq_true rfl) ⟨by show _ ≤ 8861; omega, by show _ ≤ 53166; omega⟩ dL_hands_1054 (fun H locs hW0 hS hz hk => ?_)
  clear hz hk
  refine lv_iload hx hb dL_hands_1057 (lv_at hl 3 rfl) ?_
  refine lv_icmp_ne (tgt := 1066) hx hb dL_hands_1059 (by decide) (fun c_153 => ?_) (fun c_153 => ?_)
  · replace hf := ite_f c_153 hf
    refine lv_iconst (v := (0 : Int32)) hx hb dL_hands_1066 (by decide) ?_
    exact bL_hands_1067 (x1 := x1) X hl0 z0 v3 v4 v21 v22 (0 : Int32) _ _ _ _ _ (by omega) (by omega) hW0 hS (lv_sub hl [0, 1, 2, 4, 5] rfl) hf
  · replace hf := ite_t c_153 hf
    refine lv_iconst (v := (1 : Int32)) hx hb dL_hands_1062 (by decide) ?_
    refine lv_goto (tgt := 1067) hx hb dL_hands_1063 (by decide) ?_
    exact bL_hands_1067 (x1 := x1) X hl0 z0 v3 v4 v21 v22 (1 : Int32) _ _ _ _ _ (by omega) (by omega) hW0 hS (lv_sub hl [0, 1, 2, 4, 5] rfl) hf
set_option maxRecDepth 100000 in
set_option maxHeartbeats 4000000 in
theorem bL_hands_1027 {p : Program} {l : Launch} {e : Env} {s : State} {m : MethodId} {args : Array Value} {below : List Frame} {meth : Method} {c : Code} {D : va_G} {cy : Nat → ClassId} {ad0 : Nat → Nat} {ba0 : Nat → Prop} {x1 : Int32} {res : (Int32 × aS)} (X : teC wsL_hands RL cL_hands 26 (some .boolean) D cy ba0 p s m args meth c) (hl0 : l.stackTraces = false) : ∀ (z0 : aS) (v3 : Int32) (v4 : Int32) (v14 : Int32) (v21 : Int32) (v22 : Int32) (v23 : Int32) (y0 : Int32) (y1 : Int32) (H : Heap) (locs : List Loc) (ls : Array Slot) (ce sl : Nat), ce + (66) ≤ 8861 → sl + (396) ≤ 53166 → aR D cy ad0 ba0 z0 H → va_S ba0 s.heap H locs → lv_has ls 26 [(0, .ref (ad0 360)), (3, .int v3), (4, .int v4), (14, .int v14), (21, .int v21), (22, .int v22), (23, .int v23)] → hL_hands_1027 x1 z0 v3 v4 v14 v21 v22 v23 y0 y1 = some res → W p l e (headSpec wsL_hands rmL_hands).room s m args below meth c H locs ce sl (MQ below (va_Qi (fun a (_ : Unit) => a = res.1) (fun _ t => (aR D cy ad0 ba0 res.2) t.heap) ba0) args s 8861 53166 ba0) (F0 m 1027 ls [.int y0, .int y1]) := by
  have hx := X.1
  have hb := X.2.1
  have hown := X.2.2.2.2.1
  intro z0 v3 v4 v14 v21 v22 v23 y0 y1 H locs ls ce sl hb1_ hb2_ hW0 hS hl hf
  unfold hL_hands_1027 at hf
  refine lv_icmp_ne (tgt := 1066) hx hb dL_hands_1027 (by decide) (fun c_129 => ?_) (fun c_129 => ?_)
  · replace hf := ite_f c_129 hf
    refine lv_iconst (v := (0 : Int32)) hx hb dL_hands_1066 (by decide) ?_
    exact bL_hands_1067 (x1 := x1) X hl0 z0 v3 v4 v21 v22 (0 : Int32) _ _ _ _ _ (by omega) (by omega) hW0 hS (lv_sub hl [0, 1, 2, 4, 5] rfl) hf
  · replace hf := ite_t c_129 hf
    refine lv_iload hx hb dL_hands_1030 (lv_at hl 5 rfl) ?_
    refine lv_sipush (v := (-9999 : Int32)) hx hb dL_hands_1032 (by decide) ?_
    refine lv_icmp_ne (tgt := 1045) hx hb dL_hands_1035 (by decide) (fun c_130 => ?_) (fun c_130 => ?_)
    · replace hf := ite_f c_130 hf
      exact bL_hands_1045 (x1 := x1) X hl0 z0 v3 v4 v14 v21 v22 _ _ _ _ _ (by omega) (by omega) hW0 hS (lv_sub hl [0, 1, 2, 3, 4, 5] rfl) hf
    · replace hf := ite_t c_130 hf
      refine lv_iload hx hb dL_hands_1038 (lv_at hl 6 rfl) ?_
      refine lv_iload hx hb dL_hands_1040 (lv_at hl 4 rfl) ?_
      refine lv_icmp_ge (tgt := 1066) hx hb dL_hands_1042 (by decide) (fun c_131 => ?_) (fun c_131 => ?_)
      · replace hf := ite_t c_131 hf
        refine lv_iconst (v := (0 : Int32)) hx hb dL_hands_1066 (by decide) ?_
        exact bL_hands_1067 (x1 := x1) X hl0 z0 v3 v4 v21 v22 (0 : Int32) _ _ _ _ _ (by omega) (by omega) hW0 hS (lv_sub hl [0, 1, 2, 4, 5] rfl) hf
      · replace hf := ite_f c_131 hf
        exact bL_hands_1045 (x1 := x1) X hl0 z0 v3 v4 v14 v21 v22 _ _ _ _ _ (by omega) (by omega) hW0 hS (lv_sub hl [0, 1, 2, 3, 4, 5] rfl) hf
set_option maxRecDepth 100000 in
set_option maxHeartbeats 4000000 in
theorem bL_hands_966 {p : Program} {l : Launch} {e : Env} {s : State} {m : MethodId} {args : Array Value} {below : List Frame} {meth : Method} {c : Code} {D : va_G} {cy : Nat → ClassId} {ad0 : Nat → Nat} {ba0 : Nat → Prop} {x1 : Int32} {res : (Int32 × aS)} (X : teC wsL_hands RL cL_hands 26 (some .boolean) D cy ba0 p s m args meth c) (hl0 : l.stackTraces = false) : ∀ (z0 : aS) (v3 : Int32) (v4 : Int32) (v6 : Int32) (v14 : Int32) (H : Heap) (locs : List Loc) (ls : Array Slot) (ce sl : Nat), ce + (69) ≤ 8861 → sl + (414) ≤ 53166 → aR D cy ad0 ba0 z0 H → va_S ba0 s.heap H locs → lv_has ls 26 [(0, .ref (ad0 360)), (1, .int x1), (3, .int v3), (4, .int v4), (6, .int v6), (14, .int v14)] → hL_hands_966 x1 z0 v3 v4 v6 v14 = some res → W p l e (headSpec wsL_hands rmL_hands).room s m args below meth c H locs ce sl (MQ below (va_Qi (fun a (_ : Unit) => a = res.1) (fun _ t => (aR D cy ad0 ba0 res.2) t.heap) ba0) args s 8861 53166 ba0) (F0 m 966 ls []) := by
  have hx := X.1
  have hb := X.2.1
  have hown := X.2.2.2.2.1
  intro z0 v3 v4 v6 v14 H locs ls ce sl hb1_ hb2_ hW0 hS hl hf
  unfold hL_hands_966 at hf
  refine lv_iload_n hx hb dL_hands_966 rfl (lv_at hl 1 rfl) ?_
  refine lv_bipush (v := (64 : Int32)) hx hb dL_hands_967 (by decide) ?_
  refine lv_idiv hx hb dL_hands_969 (by decide) ?_
  refine lv_bipush (v := (10 : Int32)) hx hb dL_hands_970 (by decide) ?_
  refine lv_irem hx hb dL_hands_972 (by decide) ?_
  refine lv_istore (lv' := [(21, .int ((x1 / (64 : Int32)) - (x1 / (64 : Int32)) / (10 : Int32) * (10 : Int32))), (0, .ref (ad0 360)), (1, .int x1), (3, .int v3), (4, .int v4), (6, .int v6), (14, .int v14)]) hx hb dL_hands_973 hl (by decide) rfl (fun ls hl => ?_)
  refine lv_aload_n hx hb dL_hands_975 rfl (lv_at hl 1 rfl) ?_
  refine lv_iload hx hb dL_hands_976 (lv_at hl 4 rfl) ?_
  refine lv_iload hx hb dL_hands_978 (lv_at hl 0 rfl) ?_
  refine kA (As := [.ref (ad0 360), .int v4, .int ((x1 / (64 : Int32)) - (x1 / (64 : Int32)) / (10 : Int32) * (10 : Int32))]) (rest := []) X (fun q h => h) hW0 hS (tI_tryLevelAfter l D cy ad0 ba0 hl0 z0 v4 ((x1 / (64 : Int32)) - (x1 / (64 : Int32)) / (10 : Int32) * (10 : Int32))) (vx_cwSW (hh := [(0, 6, 7, 30), (0, 6, 11, 13)]) 3 X.2.2.2.2.2.1 gL_hands_L_tryLevelAfter rfl rfl rfl kdL_tryLevelAfter.2 ⟨(Nat.le_of_ble_eq_true rfl), (Nat.le_of_ble_eq_true rfl)⟩) rfl rfl hl.1 (Nat.le_of_ble_eq_true rfl) ⟨by show _ ≤ 8861; omega, by show _ ≤ 53166; omega⟩ dL_hands_980 (fun H locs hW0 hS hz hk => ?_)
  clear hz hk
  refine lv_istore (lv' := [(22, .int (A_tryLevelAfter z0 v4 ((x1 / (64 : Int32)) - (x1 / (64 : Int32)) / (10 : Int32) * (10 : Int32)))), (21, .int ((x1 / (64 : Int32)) - (x1 / (64 : Int32)) / (10 : Int32) * (10 : Int32))), (0, .ref (ad0 360)), (1, .int x1), (3, .int v3), (4, .int v4), (6, .int v6), (14, .int v14)]) hx hb dL_hands_983 hl (by decide) rfl (fun ls hl => ?_)
  refine lv_aload_n hx hb dL_hands_985 rfl (lv_at hl 2 rfl) ?_
  refine lv_iload hx hb dL_hands_986 (lv_at hl 5 rfl) ?_
  refine lv_aload_n hx hb dL_hands_988 rfl (lv_at hl 2 rfl) ?_
  refine lv_iload hx hb dL_hands_989 (lv_at hl 5 rfl) ?_
  refine lv_iconst (v := (4 : Int32)) hx hb dL_hands_991 (by decide) ?_
  refine kA (As := [.ref (ad0 360), .int v4, .int (4 : Int32)]) (rest := [.int v4, .ref (ad0 360)]) X (fun q h => h) hW0 hS (tI_tryMember l D cy ad0 ba0 hl0 z0 v4 (4 : Int32)) (vx_cwSW (hh := [(0, 6, 7, 30), (0, 6, 11, 13)]) 3 X.2.2.2.2.2.1 gL_hands_L_tryMember rfl rfl rfl kdL_tryMember.2 ⟨(Nat.le_of_ble_eq_true rfl), (Nat.le_of_ble_eq_true rfl)⟩) rfl rfl hl.1 (Nat.le_of_ble_eq_true rfl) ⟨by show _ ≤ 8861; omega, by show _ ≤ 53166; omega⟩ dL_hands_992 (fun H locs hW0 hS hz hk => ?_)
  clear hz hk
  refine kA (As := [.ref (ad0 360), .int v4, .int (A_tryMember z0 v4 (4 : Int32))]) (rest := []) X (fun q h => h) hW0 hS (tI_tryMember l D cy ad0 ba0 hl0 z0 v4 (A_tryMember z0 v4 (4 : Int32))) (vx_cwSW (hh := [(0, 6, 7, 30), (0, 6, 11, 13)]) 3 X.2.2.2.2.2.1 gL_hands_L_tryMember rfl rfl rfl kdL_tryMember.2 ⟨(Nat.le_of_ble_eq_true rfl), (Nat.le_of_ble_eq_true rfl)⟩) rfl rfl hl.1 (Nat.le_of_ble_eq_true rfl) ⟨by show _ ≤ 8861; omega, by show _ ≤ 53166; omega⟩ dL_hands_995 (fun H locs hW0 hS hz hk => ?_)
  clear hz hk
  refine lv_istore (lv' := [(23, .int (A_tryMember z0 v4 (A_tryMember z0 v4 (4 : Int32)))), (22, .int (A_tryLevelAfter z0 v4 ((x1 / (64 : Int32)) - (x1 / (64 : Int32)) / (10 : Int32) * (10 : Int32)))), (21, .int ((x1 / (64 : Int32)) - (x1 / (64 : Int32)) / (10 : Int32) * (10 : Int32))), (0, .ref (ad0 360)), (1, .int x1), (3, .int v3), (4, .int v4), (6, .int v6), (14, .int v14)]) hx hb dL_hands_998 hl (by decide) rfl (fun ls hl => ?_)
  refine lv_iload hx hb dL_hands_1000 (lv_at hl 7 rfl) ?_
  refine lv_if_eq (tgt := 1066) hx hb dL_hands_1002 (by decide) (fun c_109 => ?_) (fun c_109 => ?_)
  · replace hf := ite_t c_109 hf
    refine lv_iconst (v := (0 : Int32)) hx hb dL_hands_1066 (by decide) ?_
    exact bL_hands_1067 (x1 := x1) X hl0 z0 v3 v4 ((x1 / (64 : Int32)) - (x1 / (64 : Int32)) / (10 : Int32) * (10 : Int32)) (A_tryLevelAfter z0 v4 ((x1 / (64 : Int32)) - (x1 / (64 : Int32)) / (10 : Int32) * (10 : Int32))) (0 : Int32) _ _ _ _ _ (by omega) (by omega) hW0 hS (lv_sub hl [3, 5, 6, 2, 1] rfl) hf
  · replace hf := ite_f c_109 hf
    refine lv_iload hx hb dL_hands_1005 (lv_at hl 1 rfl) ?_
    refine lv_if_ne (tgt := 1014) hx hb dL_hands_1007 (by decide) (fun c_110 => ?_) (fun c_110 => ?_)
    · replace hf := ite_f c_110 hf
      refine lv_iconst (v := (0 : Int32)) hx hb dL_hands_1014 (by decide) ?_
      refine lv_iload hx hb dL_hands_1015 (lv_at hl 0 rfl) ?_
      refine lv_iload hx hb dL_hands_1017 (lv_at hl 2 rfl) ?_
      refine lv_icmp_lt (tgt := 1026) hx hb dL_hands_1019 (by decide) (fun c_111 => ?_) (fun c_111 => ?_)
      · replace hf := ite_t c_111 hf
        refine lv_iconst (v := (0 : Int32)) hx hb dL_hands_1026 (by decide) ?_
        exact bL_hands_1027 (x1 := x1) X hl0 z0 v3 v4 v14 ((x1 / (64 : Int32)) - (x1 / (64 : Int32)) / (10 : Int32) * (10 : Int32)) (A_tryLevelAfter z0 v4 ((x1 / (64 : Int32)) - (x1 / (64 : Int32)) / (10 : Int32) * (10 : Int32))) (A_tryMember z0 v4 (A_tryMember z0 v4 (4 : Int32))) (0 : Int32) (0 : Int32) _ _ _ _ _ (by omega) (by omega) hW0 hS (lv_sub hl [3, 5, 6, 8, 2, 1, 0] rfl) hf
      · replace hf := ite_f c_111 hf
        refine lv_iconst (v := (1 : Int32)) hx hb dL_hands_1022 (by decide) ?_
        refine lv_goto (tgt := 1027) hx hb dL_hands_1023 (by decide) ?_
        exact bL_hands_1027 (x1 := x1) X hl0 z0 v3 v4 v14 ((x1 / (64 : Int32)) - (x1 / (64 : Int32)) / (10 : Int32) * (10 : Int32)) (A_tryLevelAfter z0 v4 ((x1 / (64 : Int32)) - (x1 / (64 : Int32)) / (10 : Int32) * (10 : Int32))) (A_tryMember z0 v4 (A_tryMember z0 v4 (4 : Int32))) (1 : Int32) (0 : Int32) _ _ _ _ _ (by omega) (by omega) hW0 hS (lv_sub hl [3, 5, 6, 8, 2, 1, 0] rfl) hf
    · replace hf := ite_t c_110 hf
      refine lv_iconst (v := (1 : Int32)) hx hb dL_hands_1010 (by decide) ?_
      refine lv_goto (tgt := 1015) hx hb dL_hands_1011 (by decide) ?_
      refine lv_iload hx hb dL_hands_1015 (lv_at hl 0 rfl) ?_
      refine lv_iload hx hb dL_hands_1017 (lv_at hl 2 rfl) ?_
      refine lv_icmp_lt (tgt := 1026) hx hb dL_hands_1019 (by decide) (fun c_112 => ?_) (fun c_112 => ?_)
      · replace hf := ite_t c_112 hf
        refine lv_iconst (v := (0 : Int32)) hx hb dL_hands_1026 (by decide) ?_
        exact bL_hands_1027 (x1 := x1) X hl0 z0 v3 v4 v14 ((x1 / (64 : Int32)) - (x1 / (64 : Int32)) / (10 : Int32) * (10 : Int32)) (A_tryLevelAfter z0 v4 ((x1 / (64 : Int32)) - (x1 / (64 : Int32)) / (10 : Int32) * (10 : Int32))) (A_tryMember z0 v4 (A_tryMember z0 v4 (4 : Int32))) (0 : Int32) (1 : Int32) _ _ _ _ _ (by omega) (by omega) hW0 hS (lv_sub hl [3, 5, 6, 8, 2, 1, 0] rfl) hf
      · replace hf := ite_f c_112 hf
        refine lv_iconst (v := (1 : Int32)) hx hb dL_hands_1022 (by decide) ?_
        refine lv_goto (tgt := 1027) hx hb dL_hands_1023 (by decide) ?_
        exact bL_hands_1027 (x1 := x1) X hl0 z0 v3 v4 v14 ((x1 / (64 : Int32)) - (x1 / (64 : Int32)) / (10 : Int32) * (10 : Int32)) (A_tryLevelAfter z0 v4 ((x1 / (64 : Int32)) - (x1 / (64 : Int32)) / (10 : Int32) * (10 : Int32))) (A_tryMember z0 v4 (A_tryMember z0 v4 (4 : Int32))) (1 : Int32) (1 : Int32) _ _ _ _ _ (by omega) (by omega) hW0 hS (lv_sub hl [3, 5, 6, 8, 2, 1, 0] rfl) hf
set_option maxRecDepth 100000 in
set_option maxHeartbeats 4000000 in
theorem bL_hands_963 {p : Program} {l : Launch} {e : Env} {s : State} {m : MethodId} {args : Array Value} {below : List Frame} {meth : Method} {c : Code} {D : va_G} {cy : Nat → ClassId} {ad0 : Nat → Nat} {ba0 : Nat → Prop} {x1 : Int32} {res : (Int32 × aS)} (X : teC wsL_hands RL cL_hands 26 (some .boolean) D cy ba0 p s m args meth c) (hl0 : l.stackTraces = false) : ∀ (z0 : aS) (v3 : Int32) (v4 : Int32) (v14 : Int32) (H : Heap) (locs : List Loc) (ls : Array Slot) (ce sl : Nat), ce + (69) ≤ 8861 → sl + (414) ≤ 53166 → aR D cy ad0 ba0 z0 H → va_S ba0 s.heap H locs → lv_has ls 26 [(0, .ref (ad0 360)), (1, .int x1), (3, .int v3), (4, .int v4), (14, .int v14)] → hL_hands_963 x1 z0 v3 v4 v14 = some res → W p l e (headSpec wsL_hands rmL_hands).room s m args below meth c H locs ce sl (MQ below (va_Qi (fun a (_ : Unit) => a = res.1) (fun _ t => (aR D cy ad0 ba0 res.2) t.heap) ba0) args s 8861 53166 ba0) (F0 m 963 ls []) := by
  have hx := X.1
  have hb := X.2.1
  have hown := X.2.2.2.2.1
  intro z0 v3 v4 v14 H locs ls ce sl hb1_ hb2_ hW0 hS hl hf
  unfold hL_hands_963 at hf
  refine lv_iconst (v := (0 : Int32)) hx hb dL_hands_963 (by decide) ?_
  refine lv_istore (lv' := [(6, .int (0 : Int32)), (0, .ref (ad0 360)), (1, .int x1), (3, .int v3), (4, .int v4), (14, .int v14)]) hx hb dL_hands_964 hl (by decide) rfl (fun ls hl => ?_)
  exact bL_hands_966 (x1 := x1) X hl0 z0 v3 v4 (0 : Int32) v14 _ _ _ _ _ (by omega) (by omega) hW0 hS (lv_sub hl [1, 2, 3, 4, 0, 5] rfl) hf
set_option maxRecDepth 100000 in
set_option maxHeartbeats 4000000 in
theorem bL_hands_868 {p : Program} {l : Launch} {e : Env} {s : State} {m : MethodId} {args : Array Value} {below : List Frame} {meth : Method} {c : Code} {D : va_G} {cy : Nat → ClassId} {ad0 : Nat → Nat} {ba0 : Nat → Prop} {x1 : Int32} {res : (Int32 × aS)} (X : teC wsL_hands RL cL_hands 26 (some .boolean) D cy ba0 p s m args meth c) (hl0 : l.stackTraces = false) : ∀ (z0 : aS) (v3 : Int32) (v4 : Int32) (v14 : Int32) (v19 : Int32) (H : Heap) (locs : List Loc) (ls : Array Slot) (ce sl : Nat), ce + (77) ≤ 8861 → sl + (462) ≤ 53166 → aR D cy ad0 ba0 z0 H → va_S ba0 s.heap H locs → lv_has ls 26 [(0, .ref (ad0 360)), (1, .int x1), (3, .int v3), (4, .int v4), (14, .int v14), (19, .int v19)] → hL_hands_868 x1 z0 v3 v4 v14 v19 = some res → W p l e (headSpec wsL_hands rmL_hands).room s m args below meth c H locs ce sl (MQ below (va_Qi (fun a (_ : Unit) => a = res.1) (fun _ t => (aR D cy ad0 ba0 res.2) t.heap) ba0) args s 8861 53166 ba0) (F0 m 868 ls []) := by
  have hx := X.1
  have hb := X.2.1
  have hown := X.2.2.2.2.1
  intro z0 v3 v4 v14 v19 H locs ls ce sl hb1_ hb2_ hW0 hS hl hf
  unfold hL_hands_868 at hf
  refine lv_aload_n hx hb dL_hands_868 rfl (lv_at hl 0 rfl) ?_
  refine lv_iload hx hb dL_hands_869 (lv_at hl 3 rfl) ?_
  obtain ⟨r_113, z0_15, hq_114, hf⟩ := bd2_some hf
  refine kA (As := [.ref (ad0 360), .int v4]) (rest := []) X (fun q h => h) hW0 hS (tI_tryPart l D cy ad0 ba0 hl0 hq_114) (vx_cwSW (hh := [(0, 5, 6, 30), (0, 5, 10, 16)]) 2 X.2.2.2.2.2.1 gL_hands_L_tryPart rfl rfl rfl kdL_tryPart.2 ⟨(Nat.le_of_ble_eq_true rfl), (Nat.le_of_ble_eq_true rfl)⟩) rfl rfl hl.1 (Nat.le_of_ble_eq_true rfl) ⟨by show _ ≤ 8861; omega, by show _ ≤ 53166; omega⟩ dL_hands_871 (fun H locs hW0 hS hz hk => ?_)
  clear hz hk
  refine lv_iload hx hb dL_hands_874 (lv_at hl 5 rfl) ?_
  refine lv_icmp_ne (tgt := 963) hx hb dL_hands_876 (by decide) (fun c_115 => ?_) (fun c_115 => ?_)
  · replace hf := ite_f c_115 hf
    exact bL_hands_963 (x1 := x1) X hl0 z0_15 v3 v4 v14 _ _ _ _ _ (by omega) (by omega) hW0 hS (lv_sub hl [0, 1, 2, 3, 4] rfl) hf
  · replace hf := ite_t c_115 hf
    refine lv_aload_n hx hb dL_hands_879 rfl (lv_at hl 0 rfl) ?_
    refine lv_iload hx hb dL_hands_880 (lv_at hl 3 rfl) ?_
    refine lv_bipush (v := (8 : Int32)) hx hb dL_hands_882 (by decide) ?_
    refine kA (As := [.ref (ad0 360), .int v4, .int (8 : Int32)]) (rest := []) X (fun q h => h) hW0 hS (tI_tryMember l D cy ad0 ba0 hl0 z0_15 v4 (8 : Int32)) (vx_cwSW (hh := [(0, 6, 7, 30), (0, 6, 11, 13)]) 3 X.2.2.2.2.2.1 gL_hands_L_tryMember rfl rfl rfl kdL_tryMember.2 ⟨(Nat.le_of_ble_eq_true rfl), (Nat.le_of_ble_eq_true rfl)⟩) rfl rfl hl.1 (Nat.le_of_ble_eq_true rfl) ⟨by show _ ≤ 8861; omega, by show _ ≤ 53166; omega⟩ dL_hands_884 (fun H locs hW0 hS hz hk => ?_)
    clear hz hk
    refine lv_sipush (v := (-9999 : Int32)) hx hb dL_hands_887 (by decide) ?_
    refine lv_icmp_ne (tgt := 963) hx hb dL_hands_890 (by decide) (fun c_116 => ?_) (fun c_116 => ?_)
    · replace hf := ite_f c_116 hf
      exact bL_hands_963 (x1 := x1) X hl0 z0_15 v3 v4 v14 _ _ _ _ _ (by omega) (by omega) hW0 hS (lv_sub hl [0, 1, 2, 3, 4] rfl) hf
    · replace hf := ite_t c_116 hf
      refine lv_aload_n hx hb dL_hands_893 rfl (lv_at hl 0 rfl) ?_
      refine lv_iload hx hb dL_hands_894 (lv_at hl 5 rfl) ?_
      refine lv_bipush (v := (8 : Int32)) hx hb dL_hands_896 (by decide) ?_
      refine kA (As := [.ref (ad0 360), .int v19, .int (8 : Int32)]) (rest := []) X (fun q h => h) hW0 hS (tI_tryMember l D cy ad0 ba0 hl0 z0_15 v19 (8 : Int32)) (vx_cwSW (hh := [(0, 6, 7, 30), (0, 6, 11, 13)]) 3 X.2.2.2.2.2.1 gL_hands_L_tryMember rfl rfl rfl kdL_tryMember.2 ⟨(Nat.le_of_ble_eq_true rfl), (Nat.le_of_ble_eq_true rfl)⟩) rfl rfl hl.1 (Nat.le_of_ble_eq_true rfl) ⟨by show _ ≤ 8861; omega, by show _ ≤ 53166; omega⟩ dL_hands_898 (fun H locs hW0 hS hz hk => ?_)
      clear hz hk
      refine lv_sipush (v := (-9999 : Int32)) hx hb dL_hands_901 (by decide) ?_
      refine lv_icmp_ne (tgt := 963) hx hb dL_hands_904 (by decide) (fun c_117 => ?_) (fun c_117 => ?_)
      · replace hf := ite_f c_117 hf
        exact bL_hands_963 (x1 := x1) X hl0 z0_15 v3 v4 v14 _ _ _ _ _ (by omega) (by omega) hW0 hS (lv_sub hl [0, 1, 2, 3, 4] rfl) hf
      · replace hf := ite_t c_117 hf
        refine lv_aload_n hx hb dL_hands_907 rfl (lv_at hl 0 rfl) ?_
        refine lv_iload hx hb dL_hands_908 (lv_at hl 3 rfl) ?_
        refine lv_iload hx hb dL_hands_910 (lv_at hl 5 rfl) ?_
        refine lv_iconst (v := (3 : Int32)) hx hb dL_hands_912 (by decide) ?_
        refine kA (As := [.ref (ad0 360), .int v4, .int v19, .int (3 : Int32)]) (rest := []) X (fun q h => h) hW0 hS (tI_tryBoth l D cy ad0 ba0 hl0 z0_15 v4 v19 (3 : Int32)) (vx_cwSW (hh := [(0, 7, 8, 30), (0, 7, 13, 13)]) 4 X.2.2.2.2.2.1 gL_hands_L_tryBoth rfl rfl rfl kdL_tryBoth.2 ⟨(Nat.le_of_ble_eq_true rfl), (Nat.le_of_ble_eq_true rfl)⟩) rfl rfl hl.1 (Nat.le_of_ble_eq_true rfl) ⟨by show _ ≤ 8861; omega, by show _ ≤ 53166; omega⟩ dL_hands_913 (fun H locs hW0 hS hz hk => ?_)
        clear hz hk
        refine lv_if_lt (tgt := 963) hx hb dL_hands_916 (by decide) (fun c_118 => ?_) (fun c_118 => ?_)
        · replace hf := ite_t c_118 hf
          exact bL_hands_963 (x1 := x1) X hl0 z0_15 v3 v4 v14 _ _ _ _ _ (by omega) (by omega) hW0 hS (lv_sub hl [0, 1, 2, 3, 4] rfl) hf
        · replace hf := ite_f c_118 hf
          refine lv_aload_n hx hb dL_hands_919 rfl (lv_at hl 0 rfl) ?_
          refine lv_iload hx hb dL_hands_920 (lv_at hl 3 rfl) ?_
          refine lv_iload hx hb dL_hands_922 (lv_at hl 5 rfl) ?_
          obtain ⟨r_119, z0_16, hq_120, hf⟩ := bd2_some hf
          refine kA (As := [.ref (ad0 360), .int v4, .int v19]) (rest := []) X (fun q h => h) hW0 hS (tI_tryPair l D cy ad0 ba0 hl0 hq_120) (vx_cwSW (hh := [(0, 6, 7, 30), (0, 6, 11, 13), (0, 6, 15, 16)]) 3 X.2.2.2.2.2.1 gL_hands_L_tryPair rfl rfl rfl kdL_tryPair.2 ⟨(Nat.le_of_ble_eq_true rfl), (Nat.le_of_ble_eq_true rfl)⟩) rfl rfl hl.1 (Nat.le_of_ble_eq_true rfl) ⟨by show _ ≤ 8861; omega, by show _ ≤ 53166; omega⟩ dL_hands_924 (fun H locs hW0 hS hz hk => ?_)
          clear hz hk
          refine lv_aload_n hx hb dL_hands_927 rfl (lv_at hl 0 rfl) ?_
          refine lv_iload hx hb dL_hands_928 (lv_at hl 3 rfl) ?_
          refine lv_iload hx hb dL_hands_930 (lv_at hl 5 rfl) ?_
          refine lv_iconst (v := (1 : Int32)) hx hb dL_hands_932 (by decide) ?_
          refine kA (As := [.ref (ad0 360), .int v4, .int v19, .int (1 : Int32)]) (rest := [.int r_119]) X (fun q h => h) hW0 hS (tI_tryBoth l D cy ad0 ba0 hl0 z0_16 v4 v19 (1 : Int32)) (vx_cwSW (hh := [(0, 7, 8, 30), (0, 7, 13, 13)]) 4 X.2.2.2.2.2.1 gL_hands_L_tryBoth rfl rfl rfl kdL_tryBoth.2 ⟨(Nat.le_of_ble_eq_true rfl), (Nat.le_of_ble_eq_true rfl)⟩) rfl rfl hl.1 (Nat.le_of_ble_eq_true rfl) ⟨by show _ ≤ 8861; omega, by show _ ≤ 53166; omega⟩ dL_hands_933 (fun H locs hW0 hS hz hk => ?_)
          clear hz hk
          refine lv_icmp_ne (tgt := 963) hx hb dL_hands_936 (by decide) (fun c_121 => ?_) (fun c_121 => ?_)
          · replace hf := ite_f c_121 hf
            exact bL_hands_963 (x1 := x1) X hl0 z0_16 v3 v4 v14 _ _ _ _ _ (by omega) (by omega) hW0 hS (lv_sub hl [0, 1, 2, 3, 4] rfl) hf
          · replace hf := ite_t c_121 hf
            refine lv_aload_n hx hb dL_hands_939 rfl (lv_at hl 0 rfl) ?_
            refine lv_iload hx hb dL_hands_940 (lv_at hl 3 rfl) ?_
            refine lv_bipush (v := (9 : Int32)) hx hb dL_hands_942 (by decide) ?_
            refine kA (As := [.ref (ad0 360), .int v4, .int (9 : Int32)]) (rest := []) X (fun q h => h) hW0 hS (tI_tryMember l D cy ad0 ba0 hl0 z0_16 v4 (9 : Int32)) (vx_cwSW (hh := [(0, 6, 7, 30), (0, 6, 11, 13)]) 3 X.2.2.2.2.2.1 gL_hands_L_tryMember rfl rfl rfl kdL_tryMember.2 ⟨(Nat.le_of_ble_eq_true rfl), (Nat.le_of_ble_eq_true rfl)⟩) rfl rfl hl.1 (Nat.le_of_ble_eq_true rfl) ⟨by show _ ≤ 8861; omega, by show _ ≤ 53166; omega⟩ dL_hands_944 (fun H locs hW0 hS hz hk => ?_)
            clear hz hk
            refine lv_if_ne (tgt := 963) hx hb dL_hands_947 (by decide) (fun c_122 => ?_) (fun c_122 => ?_)
            · replace hf := ite_f c_122 hf
              exact bL_hands_963 (x1 := x1) X hl0 z0_16 v3 v4 v14 _ _ _ _ _ (by omega) (by omega) hW0 hS (lv_sub hl [0, 1, 2, 3, 4] rfl) hf
            · replace hf := ite_t c_122 hf
              refine lv_aload_n hx hb dL_hands_950 rfl (lv_at hl 0 rfl) ?_
              refine lv_iconst (v := (0 : Int32)) hx hb dL_hands_951 (by decide) ?_
              obtain ⟨r_123, z0_17, hq_124, hf⟩ := bd2_some hf
              refine kA (As := [.ref (ad0 360), .int (0 : Int32)]) (rest := []) X (fun q h => h) hW0 hS (tI_tryRestore l D cy ad0 ba0 hl0 hq_124) (vx_cwSW (hh := [(0, 5, 6, 30), (0, 5, 10, 16)]) 2 X.2.2.2.2.2.1 gL_hands_L_tryRestore rfl rfl rfl kdL_tryRestore.2 ⟨(Nat.le_of_ble_eq_true rfl), (Nat.le_of_ble_eq_true rfl)⟩) rfl rfl hl.1 (Nat.le_of_ble_eq_true rfl) ⟨by show _ ≤ 8861; omega, by show _ ≤ 53166; omega⟩ dL_hands_952 (fun H locs hW0 hS hz hk => ?_)
              clear hz hk
              refine lv_iload_n hx hb dL_hands_955 rfl (lv_at hl 2 rfl) ?_
              refine lv_icmp_ne (tgt := 963) hx hb dL_hands_956 (by decide) (fun c_125 => ?_) (fun c_125 => ?_)
              · replace hf := ite_f c_125 hf
                exact bL_hands_963 (x1 := x1) X hl0 z0_17 v3 v4 v14 _ _ _ _ _ (by omega) (by omega) hW0 hS (lv_sub hl [0, 1, 2, 3, 4] rfl) hf
              · replace hf := ite_t c_125 hf
                refine lv_iconst (v := (1 : Int32)) hx hb dL_hands_959 (by decide) ?_
                refine lv_goto (tgt := 964) hx hb dL_hands_960 (by decide) ?_
                refine lv_istore (lv' := [(6, .int (1 : Int32)), (0, .ref (ad0 360)), (1, .int x1), (3, .int v3), (4, .int v4), (14, .int v14), (19, .int v19)]) hx hb dL_hands_964 hl (by decide) rfl (fun ls hl => ?_)
                exact bL_hands_966 (x1 := x1) X hl0 z0_17 v3 v4 (1 : Int32) v14 _ _ _ _ _ (by omega) (by omega) hW0 hS (lv_sub hl [1, 2, 3, 4, 0, 5] rfl) hf
set_option maxRecDepth 100000 in
set_option maxHeartbeats 4000000 in
theorem bL_hands_762 {p : Program} {l : Launch} {e : Env} {s : State} {m : MethodId} {args : Array Value} {below : List Frame} {meth : Method} {c : Code} {D : va_G} {cy : Nat → ClassId} {ad0 : Nat → Nat} {ba0 : Nat → Prop} {x1 : Int32} {res : (Int32 × aS)} (X : teC wsL_hands RL cL_hands 26 (some .boolean) D cy ba0 p s m args meth c) (hl0 : l.stackTraces = false) : ∀ (z0 : aS) (v3 : Int32) (v4 : Int32) (v6 : Int32) (v14 : Int32) (H : Heap) (locs : List Loc) (ls : Array Slot) (ce sl : Nat), ce + (81) ≤ 8861 → sl + (486) ≤ 53166 → aR D cy ad0 ba0 z0 H → va_S ba0 s.heap H locs → lv_has ls 26 [(0, .ref (ad0 360)), (1, .int x1), (3, .int v3), (4, .int v4), (6, .int v6), (14, .int v14)] → hL_hands_762 x1 z0 v3 v4 v6 v14 = some res → W p l e (headSpec wsL_hands rmL_hands).room s m args below meth c H locs ce sl (MQ below (va_Qi (fun a (_ : Unit) => a = res.1) (fun _ t => (aR D cy ad0 ba0 res.2) t.heap) ba0) args s 8861 53166 ba0) (F0 m 762 ls []) := by
  have hx := X.1
  have hb := X.2.1
  have hown := X.2.2.2.2.1
  intro z0 v3 v4 v6 v14 H locs ls ce sl hb1_ hb2_ hW0 hS hl hf
  unfold hL_hands_762 at hf
  refine lv_aload_n hx hb dL_hands_762 rfl (lv_at hl 0 rfl) ?_
  refine lv_iload hx hb dL_hands_763 (lv_at hl 3 rfl) ?_
  refine lv_bipush (v := (8 : Int32)) hx hb dL_hands_765 (by decide) ?_
  refine kA (As := [.ref (ad0 360), .int v4, .int (8 : Int32)]) (rest := []) X (fun q h => h) hW0 hS (tI_tryMember l D cy ad0 ba0 hl0 z0 v4 (8 : Int32)) (vx_cwSW (hh := [(0, 6, 7, 30), (0, 6, 11, 13)]) 3 X.2.2.2.2.2.1 gL_hands_L_tryMember rfl rfl rfl kdL_tryMember.2 ⟨(Nat.le_of_ble_eq_true rfl), (Nat.le_of_ble_eq_true rfl)⟩) rfl rfl hl.1 (Nat.le_of_ble_eq_true rfl) ⟨by show _ ≤ 8861; omega, by show _ ≤ 53166; omega⟩ dL_hands_767 (fun H locs hW0 hS hz hk => ?_)
  clear hz hk
  refine lv_istore (lv' := [(19, .int (A_tryMember z0 v4 (8 : Int32))), (0, .ref (ad0 360)), (1, .int x1), (3, .int v3), (4, .int v4), (6, .int v6), (14, .int v14)]) hx hb dL_hands_770 hl (by decide) rfl (fun ls hl => ?_)
  refine lv_iload_n hx hb dL_hands_772 rfl (lv_at hl 2 rfl) ?_
  refine lv_bipush (v := (32 : Int32)) hx hb dL_hands_773 (by decide) ?_
  refine lv_idiv hx hb dL_hands_775 (by decide) ?_
  refine lv_sipush (v := (512 : Int32)) hx hb dL_hands_776 (by decide) ?_
  refine lv_irem hx hb dL_hands_779 (by decide) ?_
  refine lv_istore (lv' := [(20, .int ((x1 / (32 : Int32)) - (x1 / (32 : Int32)) / (512 : Int32) * (512 : Int32))), (19, .int (A_tryMember z0 v4 (8 : Int32))), (0, .ref (ad0 360)), (1, .int x1), (3, .int v3), (4, .int v4), (6, .int v6), (14, .int v14)]) hx hb dL_hands_780 hl (by decide) rfl (fun ls hl => ?_)
  refine lv_iload hx hb dL_hands_782 (lv_at hl 1 rfl) ?_
  refine lv_sipush (v := (-9999 : Int32)) hx hb dL_hands_784 (by decide) ?_
  refine lv_icmp_eq (tgt := 966) hx hb dL_hands_787 (by decide) (fun c_97 => ?_) (fun c_97 => ?_)
  · replace hf := ite_t c_97 hf
    exact bL_hands_966 (x1 := x1) X hl0 z0 v3 v4 v6 v14 _ _ _ _ _ (by omega) (by omega) hW0 hS (lv_sub hl [2, 3, 4, 5, 6, 7] rfl) hf
  · replace hf := ite_f c_97 hf
    refine lv_iload hx hb dL_hands_790 (lv_at hl 6 rfl) ?_
    refine lv_if_eq (tgt := 966) hx hb dL_hands_792 (by decide) (fun c_98 => ?_) (fun c_98 => ?_)
    · replace hf := ite_t c_98 hf
      exact bL_hands_966 (x1 := x1) X hl0 z0 v3 v4 v6 v14 _ _ _ _ _ (by omega) (by omega) hW0 hS (lv_sub hl [2, 3, 4, 5, 6, 7] rfl) hf
    · replace hf := ite_f c_98 hf
      refine lv_aload_n hx hb dL_hands_795 rfl (lv_at hl 2 rfl) ?_
      refine lv_iload hx hb dL_hands_796 (lv_at hl 5 rfl) ?_
      refine lv_iload hx hb dL_hands_798 (lv_at hl 0 rfl) ?_
      refine kA (As := [.ref (ad0 360), .int v4, .int ((x1 / (32 : Int32)) - (x1 / (32 : Int32)) / (512 : Int32) * (512 : Int32))]) (rest := []) X (fun q h => h) hW0 hS (tI_tryPartsAfter l D cy ad0 ba0 hl0 z0 v4 ((x1 / (32 : Int32)) - (x1 / (32 : Int32)) / (512 : Int32) * (512 : Int32))) (vx_cwSW (hh := [(0, 6, 7, 30), (0, 6, 11, 13), (0, 6, 15, 16)]) 3 X.2.2.2.2.2.1 gL_hands_L_tryPartsAfter rfl rfl rfl kdL_tryPartsAfter.2 ⟨(Nat.le_of_ble_eq_true rfl), (Nat.le_of_ble_eq_true rfl)⟩) rfl rfl hl.1 (Nat.le_of_ble_eq_true rfl) ⟨by show _ ≤ 8861; omega, by show _ ≤ 53166; omega⟩ dL_hands_800 (fun H locs hW0 hS hz hk => ?_)
      clear hz hk
      refine lv_istore (lv' := [(21, .int (A_tryPartsAfter z0 v4 ((x1 / (32 : Int32)) - (x1 / (32 : Int32)) / (512 : Int32) * (512 : Int32)))), (20, .int ((x1 / (32 : Int32)) - (x1 / (32 : Int32)) / (512 : Int32) * (512 : Int32))), (19, .int (A_tryMember z0 v4 (8 : Int32))), (0, .ref (ad0 360)), (1, .int x1), (3, .int v3), (4, .int v4), (6, .int v6), (14, .int v14)]) hx hb dL_hands_803 hl (by decide) rfl (fun ls hl => ?_)
      refine lv_iload hx hb dL_hands_805 (lv_at hl 0 rfl) ?_
      refine lv_if_eq (tgt := 963) hx hb dL_hands_807 (by decide) (fun c_99 => ?_) (fun c_99 => ?_)
      · replace hf := ite_t c_99 hf
        exact bL_hands_963 (x1 := x1) X hl0 z0 v3 v4 v14 _ _ _ _ _ (by omega) (by omega) hW0 hS (lv_sub hl [3, 4, 5, 6, 8] rfl) hf
      · replace hf := ite_f c_99 hf
        refine lv_iload hx hb dL_hands_810 (lv_at hl 0 rfl) ?_
        refine lv_sipush (v := (-9999 : Int32)) hx hb dL_hands_812 (by decide) ?_
        refine lv_icmp_eq (tgt := 868) hx hb dL_hands_815 (by decide) (fun c_100 => ?_) (fun c_100 => ?_)
        · replace hf := ite_t c_100 hf
          exact bL_hands_868 (x1 := x1) X hl0 z0 v3 v4 v14 (A_tryMember z0 v4 (8 : Int32)) _ _ _ _ _ (by omega) (by omega) hW0 hS (lv_sub hl [3, 4, 5, 6, 8, 2] rfl) hf
        · replace hf := ite_f c_100 hf
          refine lv_iload hx hb dL_hands_818 (lv_at hl 0 rfl) ?_
          refine lv_bipush (v := (60 : Int32)) hx hb dL_hands_820 (by decide) ?_
          refine lv_icmp_gt (tgt := 868) hx hb dL_hands_822 (by decide) (fun c_101 => ?_) (fun c_101 => ?_)
          · replace hf := ite_t c_101 hf
            exact bL_hands_868 (x1 := x1) X hl0 z0 v3 v4 v14 (A_tryMember z0 v4 (8 : Int32)) _ _ _ _ _ (by omega) (by omega) hW0 hS (lv_sub hl [3, 4, 5, 6, 8, 2] rfl) hf
          · replace hf := ite_f c_101 hf
            refine lv_aload_n hx hb dL_hands_825 rfl (lv_at hl 3 rfl) ?_
            refine lv_iload hx hb dL_hands_826 (lv_at hl 6 rfl) ?_
            refine lv_iload hx hb dL_hands_828 (lv_at hl 0 rfl) ?_
            refine lv_iload hx hb dL_hands_830 (lv_at hl 1 rfl) ?_
            refine lv_bipush (v := (8 : Int32)) hx hb dL_hands_832 (by decide) ?_
            refine kA (As := [.ref (ad0 360), .int v4, .int (A_tryPartsAfter z0 v4 ((x1 / (32 : Int32)) - (x1 / (32 : Int32)) / (512 : Int32) * (512 : Int32))), .int ((x1 / (32 : Int32)) - (x1 / (32 : Int32)) / (512 : Int32) * (512 : Int32)), .int (8 : Int32)]) (rest := []) X (fun q h => h) hW0 hS (tI_tryAhead l D cy ad0 ba0 hl0 z0 v4 (A_tryPartsAfter z0 v4 ((x1 / (32 : Int32)) - (x1 / (32 : Int32)) / (512 : Int32) * (512 : Int32))) ((x1 / (32 : Int32)) - (x1 / (32 : Int32)) / (512 : Int32) * (512 : Int32)) (8 : Int32)) (vx_cwSW (hh := [(0, 9, 10, 30), (0, 9, 15, 13)]) 5 X.2.2.2.2.2.1 gL_hands_L_tryAhead rfl rfl rfl kdL_tryAhead.2 ⟨(Nat.le_of_ble_eq_true rfl), (Nat.le_of_ble_eq_true rfl)⟩) rfl rfl hl.1 (Nat.le_of_ble_eq_true rfl) ⟨by show _ ≤ 8861; omega, by show _ ≤ 53166; omega⟩ dL_hands_834 (fun H locs hW0 hS hz hk => ?_)
            clear hz hk
            refine lv_sipush (v := (-9999 : Int32)) hx hb dL_hands_837 (by decide) ?_
            refine lv_icmp_ne (tgt := 963) hx hb dL_hands_840 (by decide) (fun c_102 => ?_) (fun c_102 => ?_)
            · replace hf := ite_f c_102 hf
              exact bL_hands_963 (x1 := x1) X hl0 z0 v3 v4 v14 _ _ _ _ _ (by omega) (by omega) hW0 hS (lv_sub hl [3, 4, 5, 6, 8] rfl) hf
            · replace hf := ite_t c_102 hf
              refine lv_iload hx hb dL_hands_843 (lv_at hl 0 rfl) ?_
              refine lv_iconst (v := (1 : Int32)) hx hb dL_hands_845 (by decide) ?_
              refine lv_icmp_eq (tgt := 868) hx hb dL_hands_846 (by decide) (fun c_103 => ?_) (fun c_103 => ?_)
              · replace hf := ite_t c_103 hf
                exact bL_hands_868 (x1 := x1) X hl0 z0 v3 v4 v14 (A_tryMember z0 v4 (8 : Int32)) _ _ _ _ _ (by omega) (by omega) hW0 hS (lv_sub hl [3, 4, 5, 6, 8, 2] rfl) hf
              · replace hf := ite_f c_103 hf
                refine lv_aload_n hx hb dL_hands_849 rfl (lv_at hl 3 rfl) ?_
                refine lv_iload hx hb dL_hands_850 (lv_at hl 6 rfl) ?_
                refine lv_iload hx hb dL_hands_852 (lv_at hl 0 rfl) ?_
                refine lv_iconst (v := (1 : Int32)) hx hb dL_hands_854 (by decide) ?_
                refine lv_isub hx hb dL_hands_855 ?_
                refine lv_iload hx hb dL_hands_856 (lv_at hl 1 rfl) ?_
                refine lv_bipush (v := (8 : Int32)) hx hb dL_hands_858 (by decide) ?_
                refine kA (As := [.ref (ad0 360), .int v4, .int ((A_tryPartsAfter z0 v4 ((x1 / (32 : Int32)) - (x1 / (32 : Int32)) / (512 : Int32) * (512 : Int32))) - (1 : Int32)), .int ((x1 / (32 : Int32)) - (x1 / (32 : Int32)) / (512 : Int32) * (512 : Int32)), .int (8 : Int32)]) (rest := []) X (fun q h => h) hW0 hS (tI_tryAhead l D cy ad0 ba0 hl0 z0 v4 ((A_tryPartsAfter z0 v4 ((x1 / (32 : Int32)) - (x1 / (32 : Int32)) / (512 : Int32) * (512 : Int32))) - (1 : Int32)) ((x1 / (32 : Int32)) - (x1 / (32 : Int32)) / (512 : Int32) * (512 : Int32)) (8 : Int32)) (vx_cwSW (hh := [(0, 9, 10, 30), (0, 9, 15, 13)]) 5 X.2.2.2.2.2.1 gL_hands_L_tryAhead rfl rfl rfl kdL_tryAhead.2 ⟨(Nat.le_of_ble_eq_true rfl), (Nat.le_of_ble_eq_true rfl)⟩) rfl rfl hl.1 (Nat.le_of_ble_eq_true rfl) ⟨by show _ ≤ 8861; omega, by show _ ≤ 53166; omega⟩ dL_hands_860 (fun H locs hW0 hS hz hk => ?_)
                clear hz hk
                refine lv_iload hx hb dL_hands_863 (lv_at hl 2 rfl) ?_
                refine lv_icmp_ne (tgt := 963) hx hb dL_hands_865 (by decide) (fun c_104 => ?_) (fun c_104 => ?_)
                · replace hf := ite_f c_104 hf
                  exact bL_hands_963 (x1 := x1) X hl0 z0 v3 v4 v14 _ _ _ _ _ (by omega) (by omega) hW0 hS (lv_sub hl [3, 4, 5, 6, 8] rfl) hf
                · replace hf := ite_t c_104 hf
                  exact bL_hands_868 (x1 := x1) X hl0 z0 v3 v4 v14 (A_tryMember z0 v4 (8 : Int32)) _ _ _ _ _ (by omega) (by omega) hW0 hS (lv_sub hl [3, 4, 5, 6, 8, 2] rfl) hf
set_option maxRecDepth 100000 in
set_option maxHeartbeats 4000000 in
theorem bL_hands_749 {p : Program} {l : Launch} {e : Env} {s : State} {m : MethodId} {args : Array Value} {below : List Frame} {meth : Method} {c : Code} {D : va_G} {cy : Nat → ClassId} {ad0 : Nat → Nat} {ba0 : Nat → Prop} {x1 : Int32} {res : (Int32 × aS)} (X : teC wsL_hands RL cL_hands 26 (some .boolean) D cy ba0 p s m args meth c) (hl0 : l.stackTraces = false) {n657 : Nat} {q657 : aS → Int32 → Int32 → Int32 → Int32 → Int32 → Int32 → Int32 → Option (Int32 × aS)} (hq657 : ∀ (z0 : aS) (v2 : Int32) (v3 : Int32) (v4 : Int32) (v6 : Int32) (v14 : Int32) (v17 : Int32) (v19 : Int32) (H : Heap) (locs : List Loc) (ls : Array Slot) (ce sl : Nat), ce + (5 * n657 + 81) ≤ 8861 → sl + (30 * n657 + 486) ≤ 53166 → aR D cy ad0 ba0 z0 H → va_S ba0 s.heap H locs → lv_has ls 26 [(0, .ref (ad0 360)), (1, .int x1), (2, .int v2), (3, .int v3), (4, .int v4), (6, .int v6), (14, .int v14), (17, .int v17), (19, .int v19)] → q657 z0 v2 v3 v4 v6 v14 v17 v19 = some res → W p l e (headSpec wsL_hands rmL_hands).room s m args below meth c H locs ce sl (MQ below (va_Qi (fun a (_ : Unit) => a = res.1) (fun _ t => (aR D cy ad0 ba0 res.2) t.heap) ba0) args s 8861 53166 ba0) (F0 m 657 ls [])) : ∀ (z0 : aS) (v2 : Int32) (v3 : Int32) (v4 : Int32) (v14 : Int32) (v17 : Int32) (v19 : Int32) (H : Heap) (locs : List Loc) (ls : Array Slot) (ce sl : Nat), ce + (5 * n657 + 81) ≤ 8861 → sl + (30 * n657 + 486) ≤ 53166 → aR D cy ad0 ba0 z0 H → va_S ba0 s.heap H locs → lv_has ls 26 [(0, .ref (ad0 360)), (1, .int x1), (2, .int v2), (3, .int v3), (4, .int v4), (14, .int v14), (17, .int v17), (19, .int v19)] → hL_hands_749 x1 q657 z0 v2 v3 v4 v14 v17 v19 = some res → W p l e (headSpec wsL_hands rmL_hands).room s m args below meth c H locs ce sl (MQ below (va_Qi (fun a (_ : Unit) => a = res.1) (fun _ t => (aR D cy ad0 ba0 res.2) t.heap) ba0) args s 8861 53166 ba0) (F0 m 749 ls []) := by
  have hx := X.1
  have hb := X.2.1
  have hown := X.2.2.2.2.1
  intro z0 v2 v3 v4 v14 v17 v19 H locs ls ce sl hb1_ hb2_ hW0 hS hl hf
  unfold hL_hands_749 at hf
  refine lv_iconst (v := (1 : Int32)) hx hb dL_hands_749 (by decide) ?_
  refine lv_goto (tgt := 754) hx hb dL_hands_750 (by decide) ?_
  refine lv_istore (lv' := [(6, .int (1 : Int32)), (0, .ref (ad0 360)), (1, .int x1), (2, .int v2), (3, .int v3), (4, .int v4), (14, .int v14), (17, .int v17), (19, .int v19)]) hx hb dL_hands_754 hl (by decide) rfl (fun ls hl => ?_)
  refine lv_iinc (v := (v19 + (1 : Int32))) (lv' := [(19, .int (v19 + (1 : Int32))), (6, .int (1 : Int32)), (0, .ref (ad0 360)), (1, .int x1), (2, .int v2), (3, .int v3), (4, .int v4), (14, .int v14), (17, .int v17)]) hx hb dL_hands_756 hl (k := 8) rfl rfl (by decide) rfl (fun ls hl => ?_)
  refine lv_goto (tgt := 657) hx hb dL_hands_759 (by decide) ?_
  exact hq657 z0 v2 v3 v4 (1 : Int32) v14 v17 (v19 + (1 : Int32)) _ _ _ _ _ (by omega) (by omega) hW0 hS (lv_sub hl [2, 3, 4, 5, 6, 1, 7, 8, 0] rfl) hf
set_option maxRecDepth 100000 in
set_option maxHeartbeats 4000000 in
theorem bL_hands_693 {p : Program} {l : Launch} {e : Env} {s : State} {m : MethodId} {args : Array Value} {below : List Frame} {meth : Method} {c : Code} {D : va_G} {cy : Nat → ClassId} {ad0 : Nat → Nat} {ba0 : Nat → Prop} {x1 : Int32} {res : (Int32 × aS)} (X : teC wsL_hands RL cL_hands 26 (some .boolean) D cy ba0 p s m args meth c) (hl0 : l.stackTraces = false) {n657 : Nat} {q657 : aS → Int32 → Int32 → Int32 → Int32 → Int32 → Int32 → Int32 → Option (Int32 × aS)} (hq657 : ∀ (z0 : aS) (v2 : Int32) (v3 : Int32) (v4 : Int32) (v6 : Int32) (v14 : Int32) (v17 : Int32) (v19 : Int32) (H : Heap) (locs : List Loc) (ls : Array Slot) (ce sl : Nat), ce + (5 * n657 + 81) ≤ 8861 → sl + (30 * n657 + 486) ≤ 53166 → aR D cy ad0 ba0 z0 H → va_S ba0 s.heap H locs → lv_has ls 26 [(0, .ref (ad0 360)), (1, .int x1), (2, .int v2), (3, .int v3), (4, .int v4), (6, .int v6), (14, .int v14), (17, .int v17), (19, .int v19)] → q657 z0 v2 v3 v4 v6 v14 v17 v19 = some res → W p l e (headSpec wsL_hands rmL_hands).room s m args below meth c H locs ce sl (MQ below (va_Qi (fun a (_ : Unit) => a = res.1) (fun _ t => (aR D cy ad0 ba0 res.2) t.heap) ba0) args s 8861 53166 ba0) (F0 m 657 ls [])) : ∀ (z0 : aS) (v2 : Int32) (v3 : Int32) (v4 : Int32) (v14 : Int32) (v17 : Int32) (v19 : Int32) (y0 : Int32) (H : Heap) (locs : List Loc) (ls : Array Slot) (ce sl : Nat), ce + (5 * n657 + 85) ≤ 8861 → sl + (30 * n657 + 510) ≤ 53166 → aR D cy ad0 ba0 z0 H → va_S ba0 s.heap H locs → lv_has ls 26 [(0, .ref (ad0 360)), (1, .int x1), (2, .int v2), (3, .int v3), (4, .int v4), (14, .int v14), (17, .int v17), (19, .int v19)] → hL_hands_693 x1 q657 z0 v2 v3 v4 v14 v17 v19 y0 = some res → W p l e (headSpec wsL_hands rmL_hands).room s m args below meth c H locs ce sl (MQ below (va_Qi (fun a (_ : Unit) => a = res.1) (fun _ t => (aR D cy ad0 ba0 res.2) t.heap) ba0) args s 8861 53166 ba0) (F0 m 693 ls [.int y0]) := by
  have hx := X.1
  have hb := X.2.1
  have hown := X.2.2.2.2.1
  intro z0 v2 v3 v4 v14 v17 v19 y0 H locs ls ce sl hb1_ hb2_ hW0 hS hl hf
  unfold hL_hands_693 at hf
  refine lv_istore (lv' := [(20, .int y0), (0, .ref (ad0 360)), (1, .int x1), (2, .int v2), (3, .int v3), (4, .int v4), (14, .int v14), (17, .int v17), (19, .int v19)]) hx hb dL_hands_693 hl (by decide) rfl (fun ls hl => ?_)
  refine lv_iload hx hb dL_hands_695 (lv_at hl 0 rfl) ?_
  refine lv_if_eq (tgt := 749) hx hb dL_hands_697 (by decide) (fun c_105 => ?_) (fun c_105 => ?_)
  · replace hf := ite_t c_105 hf
    exact bL_hands_749 (x1 := x1) X hl0 hq657 z0 v2 v3 v4 v14 v17 v19 _ _ _ _ _ (by omega) (by omega) hW0 hS (lv_sub hl [1, 2, 3, 4, 5, 6, 7, 8] rfl) hf
  · replace hf := ite_f c_105 hf
    refine lv_aload_n hx hb dL_hands_700 rfl (lv_at hl 1 rfl) ?_
    refine lv_iload hx hb dL_hands_701 (lv_at hl 5 rfl) ?_
    refine lv_iload hx hb dL_hands_703 (lv_at hl 8 rfl) ?_
    refine lv_iconst (v := (0 : Int32)) hx hb dL_hands_705 (by decide) ?_
    refine kA (As := [.ref (ad0 360), .int v4, .int v19, .int (0 : Int32)]) (rest := []) X (fun q h => h) hW0 hS (tI_tryBoth l D cy ad0 ba0 hl0 z0 v4 v19 (0 : Int32)) (vx_cwSW (hh := [(0, 7, 8, 30), (0, 7, 13, 13)]) 4 X.2.2.2.2.2.1 gL_hands_L_tryBoth rfl rfl rfl kdL_tryBoth.2 ⟨(Nat.le_of_ble_eq_true rfl), (Nat.le_of_ble_eq_true rfl)⟩) rfl rfl hl.1 (Nat.le_of_ble_eq_true rfl) ⟨by show _ ≤ 8861; omega, by show _ ≤ 53166; omega⟩ dL_hands_706 (fun H locs hW0 hS hz hk => ?_)
    clear hz hk
    refine lv_aload_n hx hb dL_hands_709 rfl (lv_at hl 1 rfl) ?_
    refine lv_iload hx hb dL_hands_710 (lv_at hl 5 rfl) ?_
    refine lv_iload hx hb dL_hands_712 (lv_at hl 7 rfl) ?_
    refine lv_iconst (v := (0 : Int32)) hx hb dL_hands_714 (by decide) ?_
    refine kA (As := [.ref (ad0 360), .int v4, .int v17, .int (0 : Int32)]) (rest := [.int (A_tryBoth z0 v4 v19 (0 : Int32))]) X (fun q h => h) hW0 hS (tI_tryBoth l D cy ad0 ba0 hl0 z0 v4 v17 (0 : Int32)) (vx_cwSW (hh := [(0, 7, 8, 30), (0, 7, 13, 13)]) 4 X.2.2.2.2.2.1 gL_hands_L_tryBoth rfl rfl rfl kdL_tryBoth.2 ⟨(Nat.le_of_ble_eq_true rfl), (Nat.le_of_ble_eq_true rfl)⟩) rfl rfl hl.1 (Nat.le_of_ble_eq_true rfl) ⟨by show _ ≤ 8861; omega, by show _ ≤ 53166; omega⟩ dL_hands_715 (fun H locs hW0 hS hz hk => ?_)
    clear hz hk
    refine lv_icmp_lt (tgt := 749) hx hb dL_hands_718 (by decide) (fun c_106 => ?_) (fun c_106 => ?_)
    · replace hf := ite_t c_106 hf
      exact bL_hands_749 (x1 := x1) X hl0 hq657 z0 v2 v3 v4 v14 v17 v19 _ _ _ _ _ (by omega) (by omega) hW0 hS (lv_sub hl [1, 2, 3, 4, 5, 6, 7, 8] rfl) hf
    · replace hf := ite_f c_106 hf
      refine lv_aload_n hx hb dL_hands_721 rfl (lv_at hl 1 rfl) ?_
      refine lv_iload hx hb dL_hands_722 (lv_at hl 5 rfl) ?_
      refine lv_iload hx hb dL_hands_724 (lv_at hl 8 rfl) ?_
      refine lv_iconst (v := (0 : Int32)) hx hb dL_hands_726 (by decide) ?_
      refine kA (As := [.ref (ad0 360), .int v4, .int v19, .int (0 : Int32)]) (rest := []) X (fun q h => h) hW0 hS (tI_tryBoth l D cy ad0 ba0 hl0 z0 v4 v19 (0 : Int32)) (vx_cwSW (hh := [(0, 7, 8, 30), (0, 7, 13, 13)]) 4 X.2.2.2.2.2.1 gL_hands_L_tryBoth rfl rfl rfl kdL_tryBoth.2 ⟨(Nat.le_of_ble_eq_true rfl), (Nat.le_of_ble_eq_true rfl)⟩) rfl rfl hl.1 (Nat.le_of_ble_eq_true rfl) ⟨by show _ ≤ 8861; omega, by show _ ≤ 53166; omega⟩ dL_hands_727 (fun H locs hW0 hS hz hk => ?_)
      clear hz hk
      refine lv_aload_n hx hb dL_hands_730 rfl (lv_at hl 1 rfl) ?_
      refine lv_iload hx hb dL_hands_731 (lv_at hl 5 rfl) ?_
      refine lv_iload hx hb dL_hands_733 (lv_at hl 7 rfl) ?_
      refine lv_iconst (v := (0 : Int32)) hx hb dL_hands_735 (by decide) ?_
      refine kA (As := [.ref (ad0 360), .int v4, .int v17, .int (0 : Int32)]) (rest := [.int (A_tryBoth z0 v4 v19 (0 : Int32))]) X (fun q h => h) hW0 hS (tI_tryBoth l D cy ad0 ba0 hl0 z0 v4 v17 (0 : Int32)) (vx_cwSW (hh := [(0, 7, 8, 30), (0, 7, 13, 13)]) 4 X.2.2.2.2.2.1 gL_hands_L_tryBoth rfl rfl rfl kdL_tryBoth.2 ⟨(Nat.le_of_ble_eq_true rfl), (Nat.le_of_ble_eq_true rfl)⟩) rfl rfl hl.1 (Nat.le_of_ble_eq_true rfl) ⟨by show _ ≤ 8861; omega, by show _ ≤ 53166; omega⟩ dL_hands_736 (fun H locs hW0 hS hz hk => ?_)
      clear hz hk
      refine lv_icmp_ne (tgt := 753) hx hb dL_hands_739 (by decide) (fun c_107 => ?_) (fun c_107 => ?_)
      · replace hf := ite_f c_107 hf
        refine lv_iconst (v := (0 : Int32)) hx hb dL_hands_753 (by decide) ?_
        refine lv_istore (lv' := [(6, .int (0 : Int32)), (20, .int y0), (0, .ref (ad0 360)), (1, .int x1), (2, .int v2), (3, .int v3), (4, .int v4), (14, .int v14), (17, .int v17), (19, .int v19)]) hx hb dL_hands_754 hl (by decide) rfl (fun ls hl => ?_)
        refine lv_iinc (v := (v19 + (1 : Int32))) (lv' := [(19, .int (v19 + (1 : Int32))), (6, .int (0 : Int32)), (20, .int y0), (0, .ref (ad0 360)), (1, .int x1), (2, .int v2), (3, .int v3), (4, .int v4), (14, .int v14), (17, .int v17)]) hx hb dL_hands_756 hl (k := 9) rfl rfl (by decide) rfl (fun ls hl => ?_)
        refine lv_goto (tgt := 657) hx hb dL_hands_759 (by decide) ?_
        exact hq657 z0 v2 v3 v4 (0 : Int32) v14 v17 (v19 + (1 : Int32)) _ _ _ _ _ (by omega) (by omega) hW0 hS (lv_sub hl [3, 4, 5, 6, 7, 1, 8, 9, 0] rfl) hf
      · replace hf := ite_t c_107 hf
        refine lv_iload hx hb dL_hands_742 (lv_at hl 8 rfl) ?_
        refine lv_iload hx hb dL_hands_744 (lv_at hl 7 rfl) ?_
        refine lv_icmp_lt (tgt := 753) hx hb dL_hands_746 (by decide) (fun c_108 => ?_) (fun c_108 => ?_)
        · replace hf := ite_t c_108 hf
          refine lv_iconst (v := (0 : Int32)) hx hb dL_hands_753 (by decide) ?_
          refine lv_istore (lv' := [(6, .int (0 : Int32)), (20, .int y0), (0, .ref (ad0 360)), (1, .int x1), (2, .int v2), (3, .int v3), (4, .int v4), (14, .int v14), (17, .int v17), (19, .int v19)]) hx hb dL_hands_754 hl (by decide) rfl (fun ls hl => ?_)
          refine lv_iinc (v := (v19 + (1 : Int32))) (lv' := [(19, .int (v19 + (1 : Int32))), (6, .int (0 : Int32)), (20, .int y0), (0, .ref (ad0 360)), (1, .int x1), (2, .int v2), (3, .int v3), (4, .int v4), (14, .int v14), (17, .int v17)]) hx hb dL_hands_756 hl (k := 9) rfl rfl (by decide) rfl (fun ls hl => ?_)
          refine lv_goto (tgt := 657) hx hb dL_hands_759 (by decide) ?_
          exact hq657 z0 v2 v3 v4 (0 : Int32) v14 v17 (v19 + (1 : Int32)) _ _ _ _ _ (by omega) (by omega) hW0 hS (lv_sub hl [3, 4, 5, 6, 7, 1, 8, 9, 0] rfl) hf
        · replace hf := ite_f c_108 hf
          exact bL_hands_749 (x1 := x1) X hl0 hq657 z0 v2 v3 v4 v14 v17 v19 _ _ _ _ _ (by omega) (by omega) hW0 hS (lv_sub hl [1, 2, 3, 4, 5, 6, 7, 8] rfl) hf
set_option maxRecDepth 100000 in
set_option maxHeartbeats 4000000 in
theorem bL_hands_657 {p : Program} {l : Launch} {e : Env} {s : State} {m : MethodId} {args : Array Value} {below : List Frame} {meth : Method} {c : Code} {D : va_G} {cy : Nat → ClassId} {ad0 : Nat → Nat} {ba0 : Nat → Prop} {x1 : Int32} {res : (Int32 × aS)} (X : teC wsL_hands RL cL_hands 26 (some .boolean) D cy ba0 p s m args meth c) (hl0 : l.stackTraces = false) : ∀ (n : Nat), ∀ (z0 : aS) (v2 : Int32) (v3 : Int32) (v4 : Int32) (v6 : Int32) (v14 : Int32) (v17 : Int32) (v19 : Int32) (H : Heap) (locs : List Loc) (ls : Array Slot) (ce sl : Nat), ce + (5 * n + 81) ≤ 8861 → sl + (30 * n + 486) ≤ 53166 → aR D cy ad0 ba0 z0 H → va_S ba0 s.heap H locs → lv_has ls 26 [(0, .ref (ad0 360)), (1, .int x1), (2, .int v2), (3, .int v3), (4, .int v4), (6, .int v6), (14, .int v14), (17, .int v17), (19, .int v19)] → hL_hands_657 x1 n z0 v2 v3 v4 v6 v14 v17 v19 = some res → W p l e (headSpec wsL_hands rmL_hands).room s m args below meth c H locs ce sl (MQ below (va_Qi (fun a (_ : Unit) => a = res.1) (fun _ t => (aR D cy ad0 ba0 res.2) t.heap) ba0) args s 8861 53166 ba0) (F0 m 657 ls []) := by
  have hx := X.1
  have hb := X.2.1
  have hown := X.2.2.2.2.1
  intro n
  induction n with
  | zero =>
    intro z0 v2 v3 v4 v6 v14 v17 v19 H locs ls ce sl hb1_ hb2_ hW0 hS hl hf
    exact nomatch hf
  | succ n ih =>
    intro z0 v2 v3 v4 v6 v14 v17 v19 H locs ls ce sl hb1_ hb2_ hW0 hS hl hf
    unfold hL_hands_657 at hf
    refine lv_iload hx hb dL_hands_657 (lv_at hl 8 rfl) ?_
    refine lv_iload_n hx hb dL_hands_659 rfl (lv_at hl 2 rfl) ?_
    refine lv_icmp_ge (tgt := 762) hx hb dL_hands_660 (by decide) (fun c_93 => ?_) (fun c_93 => ?_)
    · replace hf := ite_t c_93 hf
      exact bL_hands_762 (x1 := x1) X hl0 z0 v3 v4 v6 v14 _ _ _ _ _ (by omega) (by omega) hW0 hS (lv_sub hl [0, 1, 3, 4, 5, 6] rfl) hf
    · replace hf := ite_f c_93 hf
      refine lv_iload hx hb dL_hands_663 (lv_at hl 5 rfl) ?_
      refine lv_if_eq (tgt := 762) hx hb dL_hands_665 (by decide) (fun c_94 => ?_) (fun c_94 => ?_)
      · replace hf := ite_t c_94 hf
        exact bL_hands_762 (x1 := x1) X hl0 z0 v3 v4 v6 v14 _ _ _ _ _ (by omega) (by omega) hW0 hS (lv_sub hl [0, 1, 3, 4, 5, 6] rfl) hf
      · replace hf := ite_f c_94 hf
        refine lv_iload hx hb dL_hands_668 (lv_at hl 8 rfl) ?_
        refine lv_iload hx hb dL_hands_670 (lv_at hl 4 rfl) ?_
        refine lv_icmp_eq (tgt := 692) hx hb dL_hands_672 (by decide) (fun c_95 => ?_) (fun c_95 => ?_)
        · replace hf := ite_t c_95 hf
          refine lv_iconst (v := (0 : Int32)) hx hb dL_hands_692 (by decide) ?_
          exact bL_hands_693 (x1 := x1) X hl0 ih z0 v2 v3 v4 v14 v17 v19 (0 : Int32) _ _ _ _ _ (by omega) (by omega) hW0 hS (lv_sub hl [0, 1, 2, 3, 4, 6, 7, 8] rfl) hf
        · replace hf := ite_f c_95 hf
          refine lv_aload_n hx hb dL_hands_675 rfl (lv_at hl 0 rfl) ?_
          refine lv_iload hx hb dL_hands_676 (lv_at hl 4 rfl) ?_
          refine lv_iload hx hb dL_hands_678 (lv_at hl 8 rfl) ?_
          refine lv_iconst (v := (2 : Int32)) hx hb dL_hands_680 (by decide) ?_
          refine kA (As := [.ref (ad0 360), .int v4, .int v19, .int (2 : Int32)]) (rest := []) X (fun q h => h) hW0 hS (tI_tryBoth l D cy ad0 ba0 hl0 z0 v4 v19 (2 : Int32)) (vx_cwSW (hh := [(0, 7, 8, 30), (0, 7, 13, 13)]) 4 X.2.2.2.2.2.1 gL_hands_L_tryBoth rfl rfl rfl kdL_tryBoth.2 ⟨(Nat.le_of_ble_eq_true rfl), (Nat.le_of_ble_eq_true rfl)⟩) rfl rfl hl.1 (Nat.le_of_ble_eq_true rfl) ⟨by show _ ≤ 8861; omega, by show _ ≤ 53166; omega⟩ dL_hands_681 (fun H locs hW0 hS hz hk => ?_)
          clear hz hk
          refine lv_iconst (v := (1 : Int32)) hx hb dL_hands_684 (by decide) ?_
          refine lv_icmp_ne (tgt := 692) hx hb dL_hands_685 (by decide) (fun c_96 => ?_) (fun c_96 => ?_)
          · replace hf := ite_f c_96 hf
            refine lv_iconst (v := (0 : Int32)) hx hb dL_hands_692 (by decide) ?_
            exact bL_hands_693 (x1 := x1) X hl0 ih z0 v2 v3 v4 v14 v17 v19 (0 : Int32) _ _ _ _ _ (by omega) (by omega) hW0 hS (lv_sub hl [0, 1, 2, 3, 4, 6, 7, 8] rfl) hf
          · replace hf := ite_t c_96 hf
            refine lv_iconst (v := (1 : Int32)) hx hb dL_hands_688 (by decide) ?_
            refine lv_goto (tgt := 693) hx hb dL_hands_689 (by decide) ?_
            exact bL_hands_693 (x1 := x1) X hl0 ih z0 v2 v3 v4 v14 v17 v19 (1 : Int32) _ _ _ _ _ (by omega) (by omega) hW0 hS (lv_sub hl [0, 1, 2, 3, 4, 6, 7, 8] rfl) hf
set_option maxRecDepth 100000 in
set_option maxHeartbeats 4000000 in
theorem bL_hands_651 {p : Program} {l : Launch} {e : Env} {s : State} {m : MethodId} {args : Array Value} {below : List Frame} {meth : Method} {c : Code} {D : va_G} {cy : Nat → ClassId} {ad0 : Nat → Nat} {ba0 : Nat → Prop} {x1 : Int32} {res : (Int32 × aS)} (X : teC wsL_hands RL cL_hands 26 (some .boolean) D cy ba0 p s m args meth c) (hl0 : l.stackTraces = false) : ∀ (z0 : aS) (v2 : Int32) (v3 : Int32) (v4 : Int32) (v14 : Int32) (v17 : Int32) (H : Heap) (locs : List Loc) (ls : Array Slot) (ce sl : Nat), ce + (131) ≤ 8861 → sl + (786) ≤ 53166 → aR D cy ad0 ba0 z0 H → va_S ba0 s.heap H locs → lv_has ls 26 [(0, .ref (ad0 360)), (1, .int x1), (2, .int v2), (3, .int v3), (4, .int v4), (14, .int v14), (17, .int v17)] → hL_hands_651 x1 z0 v2 v3 v4 v14 v17 = some res → W p l e (headSpec wsL_hands rmL_hands).room s m args below meth c H locs ce sl (MQ below (va_Qi (fun a (_ : Unit) => a = res.1) (fun _ t => (aR D cy ad0 ba0 res.2) t.heap) ba0) args s 8861 53166 ba0) (F0 m 651 ls []) := by
  have hx := X.1
  have hb := X.2.1
  have hown := X.2.2.2.2.1
  intro z0 v2 v3 v4 v14 v17 H locs ls ce sl hb1_ hb2_ hW0 hS hl hf
  unfold hL_hands_651 at hf
  refine lv_iconst (v := (0 : Int32)) hx hb dL_hands_651 (by decide) ?_
  refine lv_istore (lv' := [(6, .int (0 : Int32)), (0, .ref (ad0 360)), (1, .int x1), (2, .int v2), (3, .int v3), (4, .int v4), (14, .int v14), (17, .int v17)]) hx hb dL_hands_652 hl (by decide) rfl (fun ls hl => ?_)
  refine lv_iconst (v := (0 : Int32)) hx hb dL_hands_654 (by decide) ?_
  refine lv_istore (lv' := [(19, .int (0 : Int32)), (6, .int (0 : Int32)), (0, .ref (ad0 360)), (1, .int x1), (2, .int v2), (3, .int v3), (4, .int v4), (14, .int v14), (17, .int v17)]) hx hb dL_hands_655 hl (by decide) rfl (fun ls hl => ?_)
  exact bL_hands_657 (x1 := x1) X hl0 10 z0 v2 v3 v4 (0 : Int32) v14 v17 (0 : Int32) _ _ _ _ _ (by omega) (by omega) hW0 hS (lv_sub hl [2, 3, 4, 5, 6, 1, 7, 8, 0] rfl) hf
set_option maxRecDepth 100000 in
set_option maxHeartbeats 4000000 in
theorem bL_hands_593 {p : Program} {l : Launch} {e : Env} {s : State} {m : MethodId} {args : Array Value} {below : List Frame} {meth : Method} {c : Code} {D : va_G} {cy : Nat → ClassId} {ad0 : Nat → Nat} {ba0 : Nat → Prop} {x1 : Int32} {res : (Int32 × aS)} (X : teC wsL_hands RL cL_hands 26 (some .boolean) D cy ba0 p s m args meth c) (hl0 : l.stackTraces = false) : ∀ (z0 : aS) (v2 : Int32) (v3 : Int32) (v4 : Int32) (v14 : Int32) (v17 : Int32) (v18 : Int32) (y0 : Int32) (y1 : Int32) (H : Heap) (locs : List Loc) (ls : Array Slot) (ce sl : Nat), ce + (134) ≤ 8861 → sl + (804) ≤ 53166 → aR D cy ad0 ba0 z0 H → va_S ba0 s.heap H locs → lv_has ls 26 [(0, .ref (ad0 360)), (1, .int x1), (2, .int v2), (3, .int v3), (4, .int v4), (14, .int v14), (17, .int v17), (18, .int v18)] → hL_hands_593 x1 z0 v2 v3 v4 v14 v17 v18 y0 y1 = some res → W p l e (headSpec wsL_hands rmL_hands).room s m args below meth c H locs ce sl (MQ below (va_Qi (fun a (_ : Unit) => a = res.1) (fun _ t => (aR D cy ad0 ba0 res.2) t.heap) ba0) args s 8861 53166 ba0) (F0 m 593 ls [.int y0, .int y1]) := by
  have hx := X.1
  have hb := X.2.1
  have hown := X.2.2.2.2.1
  intro z0 v2 v3 v4 v14 v17 v18 y0 y1 H locs ls ce sl hb1_ hb2_ hW0 hS hl hf
  unfold hL_hands_593 at hf
  refine lv_icmp_ne (tgt := 651) hx hb dL_hands_593 (by decide) (fun c_88 => ?_) (fun c_88 => ?_)
  · replace hf := ite_f c_88 hf
    exact bL_hands_651 (x1 := x1) X hl0 z0 v2 v3 v4 v14 v17 _ _ _ _ _ (by omega) (by omega) hW0 hS (lv_sub hl [0, 1, 2, 3, 4, 5, 6] rfl) hf
  · replace hf := ite_t c_88 hf
    refine lv_iload hx hb dL_hands_596 (lv_at hl 7 rfl) ?_
    refine lv_sipush (v := (-9999 : Int32)) hx hb dL_hands_598 (by decide) ?_
    refine lv_icmp_eq (tgt := 647) hx hb dL_hands_601 (by decide) (fun c_89 => ?_) (fun c_89 => ?_)
    · replace hf := ite_t c_89 hf
      refine lv_iconst (v := (1 : Int32)) hx hb dL_hands_647 (by decide) ?_
      refine lv_goto (tgt := 652) hx hb dL_hands_648 (by decide) ?_
      refine lv_istore (lv' := [(6, .int (1 : Int32)), (0, .ref (ad0 360)), (1, .int x1), (2, .int v2), (3, .int v3), (4, .int v4), (14, .int v14), (17, .int v17), (18, .int v18)]) hx hb dL_hands_652 hl (by decide) rfl (fun ls hl => ?_)
      refine lv_iconst (v := (0 : Int32)) hx hb dL_hands_654 (by decide) ?_
      refine lv_istore (lv' := [(19, .int (0 : Int32)), (6, .int (1 : Int32)), (0, .ref (ad0 360)), (1, .int x1), (2, .int v2), (3, .int v3), (4, .int v4), (14, .int v14), (17, .int v17), (18, .int v18)]) hx hb dL_hands_655 hl (by decide) rfl (fun ls hl => ?_)
      exact bL_hands_657 (x1 := x1) X hl0 10 z0 v2 v3 v4 (1 : Int32) v14 v17 (0 : Int32) _ _ _ _ _ (by omega) (by omega) hW0 hS (lv_sub hl [2, 3, 4, 5, 6, 1, 7, 8, 0] rfl) hf
    · replace hf := ite_f c_89 hf
      refine lv_iload hx hb dL_hands_604 (lv_at hl 6 rfl) ?_
      refine lv_sipush (v := (-9999 : Int32)) hx hb dL_hands_606 (by decide) ?_
      refine lv_icmp_eq (tgt := 651) hx hb dL_hands_609 (by decide) (fun c_90 => ?_) (fun c_90 => ?_)
      · replace hf := ite_t c_90 hf
        exact bL_hands_651 (x1 := x1) X hl0 z0 v2 v3 v4 v14 v17 _ _ _ _ _ (by omega) (by omega) hW0 hS (lv_sub hl [0, 1, 2, 3, 4, 5, 6] rfl) hf
      · replace hf := ite_f c_90 hf
        refine lv_aload_n hx hb dL_hands_612 rfl (lv_at hl 0 rfl) ?_
        refine lv_iload hx hb dL_hands_613 (lv_at hl 7 rfl) ?_
        refine lv_bipush (v := (8 : Int32)) hx hb dL_hands_615 (by decide) ?_
        refine kA (As := [.ref (ad0 360), .int v18, .int (8 : Int32)]) (rest := []) X (fun q h => h) hW0 hS (tI_tryMember l D cy ad0 ba0 hl0 z0 v18 (8 : Int32)) (vx_cwSW (hh := [(0, 6, 7, 30), (0, 6, 11, 13)]) 3 X.2.2.2.2.2.1 gL_hands_L_tryMember rfl rfl rfl kdL_tryMember.2 ⟨(Nat.le_of_ble_eq_true rfl), (Nat.le_of_ble_eq_true rfl)⟩) rfl rfl hl.1 (Nat.le_of_ble_eq_true rfl) ⟨by show _ ≤ 8861; omega, by show _ ≤ 53166; omega⟩ dL_hands_617 (fun H locs hW0 hS hz hk => ?_)
        clear hz hk
        refine lv_sipush (v := (-9999 : Int32)) hx hb dL_hands_620 (by decide) ?_
        refine lv_icmp_ne (tgt := 651) hx hb dL_hands_623 (by decide) (fun c_91 => ?_) (fun c_91 => ?_)
        · replace hf := ite_f c_91 hf
          exact bL_hands_651 (x1 := x1) X hl0 z0 v2 v3 v4 v14 v17 _ _ _ _ _ (by omega) (by omega) hW0 hS (lv_sub hl [0, 1, 2, 3, 4, 5, 6] rfl) hf
        · replace hf := ite_t c_91 hf
          refine lv_aload_n hx hb dL_hands_626 rfl (lv_at hl 0 rfl) ?_
          refine lv_iload hx hb dL_hands_627 (lv_at hl 4 rfl) ?_
          refine lv_iload hx hb dL_hands_629 (lv_at hl 7 rfl) ?_
          refine lv_iconst (v := (0 : Int32)) hx hb dL_hands_631 (by decide) ?_
          refine kA (As := [.ref (ad0 360), .int v4, .int v18, .int (0 : Int32)]) (rest := []) X (fun q h => h) hW0 hS (tI_tryBoth l D cy ad0 ba0 hl0 z0 v4 v18 (0 : Int32)) (vx_cwSW (hh := [(0, 7, 8, 30), (0, 7, 13, 13)]) 4 X.2.2.2.2.2.1 gL_hands_L_tryBoth rfl rfl rfl kdL_tryBoth.2 ⟨(Nat.le_of_ble_eq_true rfl), (Nat.le_of_ble_eq_true rfl)⟩) rfl rfl hl.1 (Nat.le_of_ble_eq_true rfl) ⟨by show _ ≤ 8861; omega, by show _ ≤ 53166; omega⟩ dL_hands_632 (fun H locs hW0 hS hz hk => ?_)
          clear hz hk
          refine lv_aload_n hx hb dL_hands_635 rfl (lv_at hl 0 rfl) ?_
          refine lv_iload hx hb dL_hands_636 (lv_at hl 4 rfl) ?_
          refine lv_iload hx hb dL_hands_638 (lv_at hl 6 rfl) ?_
          refine lv_iconst (v := (0 : Int32)) hx hb dL_hands_640 (by decide) ?_
          refine kA (As := [.ref (ad0 360), .int v4, .int v17, .int (0 : Int32)]) (rest := [.int (A_tryBoth z0 v4 v18 (0 : Int32))]) X (fun q h => h) hW0 hS (tI_tryBoth l D cy ad0 ba0 hl0 z0 v4 v17 (0 : Int32)) (vx_cwSW (hh := [(0, 7, 8, 30), (0, 7, 13, 13)]) 4 X.2.2.2.2.2.1 gL_hands_L_tryBoth rfl rfl rfl kdL_tryBoth.2 ⟨(Nat.le_of_ble_eq_true rfl), (Nat.le_of_ble_eq_true rfl)⟩) rfl rfl hl.1 (Nat.le_of_ble_eq_true rfl) ⟨by show _ ≤ 8861; omega, by show _ ≤ 53166; omega⟩ dL_hands_641 (fun H locs hW0 hS hz hk => ?_)
          clear hz hk
          refine lv_icmp_gt (tgt := 651) hx hb dL_hands_644 (by decide) (fun c_92 => ?_) (fun c_92 => ?_)
          · replace hf := ite_t c_92 hf
            exact bL_hands_651 (x1 := x1) X hl0 z0 v2 v3 v4 v14 v17 _ _ _ _ _ (by omega) (by omega) hW0 hS (lv_sub hl [0, 1, 2, 3, 4, 5, 6] rfl) hf
          · replace hf := ite_f c_92 hf
            refine lv_iconst (v := (1 : Int32)) hx hb dL_hands_647 (by decide) ?_
            refine lv_goto (tgt := 652) hx hb dL_hands_648 (by decide) ?_
            refine lv_istore (lv' := [(6, .int (1 : Int32)), (0, .ref (ad0 360)), (1, .int x1), (2, .int v2), (3, .int v3), (4, .int v4), (14, .int v14), (17, .int v17), (18, .int v18)]) hx hb dL_hands_652 hl (by decide) rfl (fun ls hl => ?_)
            refine lv_iconst (v := (0 : Int32)) hx hb dL_hands_654 (by decide) ?_
            refine lv_istore (lv' := [(19, .int (0 : Int32)), (6, .int (1 : Int32)), (0, .ref (ad0 360)), (1, .int x1), (2, .int v2), (3, .int v3), (4, .int v4), (14, .int v14), (17, .int v17), (18, .int v18)]) hx hb dL_hands_655 hl (by decide) rfl (fun ls hl => ?_)
            exact bL_hands_657 (x1 := x1) X hl0 10 z0 v2 v3 v4 (1 : Int32) v14 v17 (0 : Int32) _ _ _ _ _ (by omega) (by omega) hW0 hS (lv_sub hl [2, 3, 4, 5, 6, 1, 7, 8, 0] rfl) hf
set_option maxRecDepth 100000 in
set_option maxHeartbeats 4000000 in
theorem bL_hands_539 {p : Program} {l : Launch} {e : Env} {s : State} {m : MethodId} {args : Array Value} {below : List Frame} {meth : Method} {c : Code} {D : va_G} {cy : Nat → ClassId} {ad0 : Nat → Nat} {ba0 : Nat → Prop} {x1 : Int32} {res : (Int32 × aS)} (X : teC wsL_hands RL cL_hands 26 (some .boolean) D cy ba0 p s m args meth c) (hl0 : l.stackTraces = false) : ∀ (z0 : aS) (v2 : Int32) (v3 : Int32) (v4 : Int32) (v14 : Int32) (y0 : Int32) (H : Heap) (locs : List Loc) (ls : Array Slot) (ce sl : Nat), ce + (137) ≤ 8861 → sl + (822) ≤ 53166 → aR D cy ad0 ba0 z0 H → va_S ba0 s.heap H locs → lv_has ls 26 [(0, .ref (ad0 360)), (1, .int x1), (2, .int v2), (3, .int v3), (4, .int v4), (14, .int v14)] → hL_hands_539 x1 z0 v2 v3 v4 v14 y0 = some res → W p l e (headSpec wsL_hands rmL_hands).room s m args below meth c H locs ce sl (MQ below (va_Qi (fun a (_ : Unit) => a = res.1) (fun _ t => (aR D cy ad0 ba0 res.2) t.heap) ba0) args s 8861 53166 ba0) (F0 m 539 ls [.int y0]) := by
  have hx := X.1
  have hb := X.2.1
  have hown := X.2.2.2.2.1
  intro z0 v2 v3 v4 v14 y0 H locs ls ce sl hb1_ hb2_ hW0 hS hl hf
  unfold hL_hands_539 at hf
  refine lv_istore (lv' := [(6, .int y0), (0, .ref (ad0 360)), (1, .int x1), (2, .int v2), (3, .int v3), (4, .int v4), (14, .int v14)]) hx hb dL_hands_539 hl (by decide) rfl (fun ls hl => ?_)
  refine lv_aload_n hx hb dL_hands_541 rfl (lv_at hl 1 rfl) ?_
  refine lv_iload hx hb dL_hands_542 (lv_at hl 5 rfl) ?_
  refine lv_iconst (v := (0 : Int32)) hx hb dL_hands_544 (by decide) ?_
  refine kA (As := [.ref (ad0 360), .int v4, .int (0 : Int32)]) (rest := []) X (fun q h => h) hW0 hS (tI_tryBestPartner l D cy ad0 ba0 hl0 z0 v4 (0 : Int32)) (vx_cwSW (hh := [(0, 6, 7, 30)]) 3 X.2.2.2.2.2.1 gL_hands_L_tryBestPartner rfl rfl rfl kdL_tryBestPartner.2 ⟨(Nat.le_of_ble_eq_true rfl), (Nat.le_of_ble_eq_true rfl)⟩) rfl rfl hl.1 (Nat.le_of_ble_eq_true rfl) ⟨by show _ ≤ 8861; omega, by show _ ≤ 53166; omega⟩ dL_hands_545 (fun H locs hW0 hS hz hk => ?_)
  clear hz hk
  refine lv_istore (lv' := [(17, .int (A_tryBestPartner z0 v4 (0 : Int32))), (6, .int y0), (0, .ref (ad0 360)), (1, .int x1), (2, .int v2), (3, .int v3), (4, .int v4), (14, .int v14)]) hx hb dL_hands_548 hl (by decide) rfl (fun ls hl => ?_)
  refine lv_aload_n hx hb dL_hands_550 rfl (lv_at hl 2 rfl) ?_
  refine lv_iload hx hb dL_hands_551 (lv_at hl 6 rfl) ?_
  refine lv_iconst (v := (1 : Int32)) hx hb dL_hands_553 (by decide) ?_
  refine kA (As := [.ref (ad0 360), .int v4, .int (1 : Int32)]) (rest := []) X (fun q h => h) hW0 hS (tI_tryBestPartner l D cy ad0 ba0 hl0 z0 v4 (1 : Int32)) (vx_cwSW (hh := [(0, 6, 7, 30)]) 3 X.2.2.2.2.2.1 gL_hands_L_tryBestPartner rfl rfl rfl kdL_tryBestPartner.2 ⟨(Nat.le_of_ble_eq_true rfl), (Nat.le_of_ble_eq_true rfl)⟩) rfl rfl hl.1 (Nat.le_of_ble_eq_true rfl) ⟨by show _ ≤ 8861; omega, by show _ ≤ 53166; omega⟩ dL_hands_554 (fun H locs hW0 hS hz hk => ?_)
  clear hz hk
  refine lv_istore (lv' := [(18, .int (A_tryBestPartner z0 v4 (1 : Int32))), (17, .int (A_tryBestPartner z0 v4 (0 : Int32))), (6, .int y0), (0, .ref (ad0 360)), (1, .int x1), (2, .int v2), (3, .int v3), (4, .int v4), (14, .int v14)]) hx hb dL_hands_557 hl (by decide) rfl (fun ls hl => ?_)
  refine lv_iload hx hb dL_hands_559 (lv_at hl 2 rfl) ?_
  refine lv_if_eq (tgt := 651) hx hb dL_hands_561 (by decide) (fun c_84 => ?_) (fun c_84 => ?_)
  · replace hf := ite_t c_84 hf
    exact bL_hands_651 (x1 := x1) X hl0 z0 v2 v3 v4 v14 (A_tryBestPartner z0 v4 (0 : Int32)) _ _ _ _ _ (by omega) (by omega) hW0 hS (lv_sub hl [3, 4, 5, 6, 7, 8, 1] rfl) hf
  · replace hf := ite_f c_84 hf
    refine lv_iload hx hb dL_hands_564 (lv_at hl 1 rfl) ?_
    refine lv_sipush (v := (-9999 : Int32)) hx hb dL_hands_566 (by decide) ?_
    refine lv_icmp_ne (tgt := 576) hx hb dL_hands_569 (by decide) (fun c_85 => ?_) (fun c_85 => ?_)
    · replace hf := ite_f c_85 hf
      refine lv_iconst (v := (0 : Int32)) hx hb dL_hands_576 (by decide) ?_
      refine lv_aload_n hx hb dL_hands_577 rfl (lv_at hl 3 rfl) ?_
      refine lv_iload hx hb dL_hands_578 (lv_at hl 7 rfl) ?_
      refine lv_bipush (v := (10 : Int32)) hx hb dL_hands_580 (by decide) ?_
      refine kA (As := [.ref (ad0 360), .int v4, .int (10 : Int32)]) (rest := [.int (0 : Int32)]) X (fun q h => h) hW0 hS (tI_tryMember l D cy ad0 ba0 hl0 z0 v4 (10 : Int32)) (vx_cwSW (hh := [(0, 6, 7, 30), (0, 6, 11, 13)]) 3 X.2.2.2.2.2.1 gL_hands_L_tryMember rfl rfl rfl kdL_tryMember.2 ⟨(Nat.le_of_ble_eq_true rfl), (Nat.le_of_ble_eq_true rfl)⟩) rfl rfl hl.1 (Nat.le_of_ble_eq_true rfl) ⟨by show _ ≤ 8861; omega, by show _ ≤ 53166; omega⟩ dL_hands_582 (fun H locs hW0 hS hz hk => ?_)
      clear hz hk
      refine lv_if_ne (tgt := 592) hx hb dL_hands_585 (by decide) (fun c_86 => ?_) (fun c_86 => ?_)
      · replace hf := ite_f c_86 hf
        refine lv_iconst (v := (0 : Int32)) hx hb dL_hands_592 (by decide) ?_
        exact bL_hands_593 (x1 := x1) X hl0 z0 v2 v3 v4 v14 (A_tryBestPartner z0 v4 (0 : Int32)) (A_tryBestPartner z0 v4 (1 : Int32)) (0 : Int32) (0 : Int32) _ _ _ _ _ (by omega) (by omega) hW0 hS (lv_sub hl [3, 4, 5, 6, 7, 8, 1, 0] rfl) hf
      · replace hf := ite_t c_86 hf
        refine lv_iconst (v := (1 : Int32)) hx hb dL_hands_588 (by decide) ?_
        refine lv_goto (tgt := 593) hx hb dL_hands_589 (by decide) ?_
        exact bL_hands_593 (x1 := x1) X hl0 z0 v2 v3 v4 v14 (A_tryBestPartner z0 v4 (0 : Int32)) (A_tryBestPartner z0 v4 (1 : Int32)) (1 : Int32) (0 : Int32) _ _ _ _ _ (by omega) (by omega) hW0 hS (lv_sub hl [3, 4, 5, 6, 7, 8, 1, 0] rfl) hf
    · replace hf := ite_t c_85 hf
      refine lv_iconst (v := (1 : Int32)) hx hb dL_hands_572 (by decide) ?_
      refine lv_goto (tgt := 577) hx hb dL_hands_573 (by decide) ?_
      refine lv_aload_n hx hb dL_hands_577 rfl (lv_at hl 3 rfl) ?_
      refine lv_iload hx hb dL_hands_578 (lv_at hl 7 rfl) ?_
      refine lv_bipush (v := (10 : Int32)) hx hb dL_hands_580 (by decide) ?_
      refine kA (As := [.ref (ad0 360), .int v4, .int (10 : Int32)]) (rest := [.int (1 : Int32)]) X (fun q h => h) hW0 hS (tI_tryMember l D cy ad0 ba0 hl0 z0 v4 (10 : Int32)) (vx_cwSW (hh := [(0, 6, 7, 30), (0, 6, 11, 13)]) 3 X.2.2.2.2.2.1 gL_hands_L_tryMember rfl rfl rfl kdL_tryMember.2 ⟨(Nat.le_of_ble_eq_true rfl), (Nat.le_of_ble_eq_true rfl)⟩) rfl rfl hl.1 (Nat.le_of_ble_eq_true rfl) ⟨by show _ ≤ 8861; omega, by show _ ≤ 53166; omega⟩ dL_hands_582 (fun H locs hW0 hS hz hk => ?_)
      clear hz hk
      refine lv_if_ne (tgt := 592) hx hb dL_hands_585 (by decide) (fun c_87 => ?_) (fun c_87 => ?_)
      · replace hf := ite_f c_87 hf
        refine lv_iconst (v := (0 : Int32)) hx hb dL_hands_592 (by decide) ?_
        exact bL_hands_593 (x1 := x1) X hl0 z0 v2 v3 v4 v14 (A_tryBestPartner z0 v4 (0 : Int32)) (A_tryBestPartner z0 v4 (1 : Int32)) (0 : Int32) (1 : Int32) _ _ _ _ _ (by omega) (by omega) hW0 hS (lv_sub hl [3, 4, 5, 6, 7, 8, 1, 0] rfl) hf
      · replace hf := ite_t c_87 hf
        refine lv_iconst (v := (1 : Int32)) hx hb dL_hands_588 (by decide) ?_
        refine lv_goto (tgt := 593) hx hb dL_hands_589 (by decide) ?_
        exact bL_hands_593 (x1 := x1) X hl0 z0 v2 v3 v4 v14 (A_tryBestPartner z0 v4 (0 : Int32)) (A_tryBestPartner z0 v4 (1 : Int32)) (1 : Int32) (1 : Int32) _ _ _ _ _ (by omega) (by omega) hW0 hS (lv_sub hl [3, 4, 5, 6, 7, 8, 1, 0] rfl) hf
set_option maxRecDepth 100000 in
set_option maxHeartbeats 4000000 in
theorem bL_hands_454 {p : Program} {l : Launch} {e : Env} {s : State} {m : MethodId} {args : Array Value} {below : List Frame} {meth : Method} {c : Code} {D : va_G} {cy : Nat → ClassId} {ad0 : Nat → Nat} {ba0 : Nat → Prop} {x1 : Int32} {res : (Int32 × aS)} (X : teC wsL_hands RL cL_hands 26 (some .boolean) D cy ba0 p s m args meth c) (hl0 : l.stackTraces = false) : ∀ (z0 : aS) (v2 : Int32) (v3 : Int32) (v4 : Int32) (v12 : Int32) (v14 : Int32) (y0 : Int32) (H : Heap) (locs : List Loc) (ls : Array Slot) (ce sl : Nat), ce + (145) ≤ 8861 → sl + (870) ≤ 53166 → aR D cy ad0 ba0 z0 H → va_S ba0 s.heap H locs → lv_has ls 26 [(0, .ref (ad0 360)), (1, .int x1), (2, .int v2), (3, .int v3), (4, .int v4), (12, .int v12), (14, .int v14)] → hL_hands_454 x1 z0 v2 v3 v4 v12 v14 y0 = some res → W p l e (headSpec wsL_hands rmL_hands).room s m args below meth c H locs ce sl (MQ below (va_Qi (fun a (_ : Unit) => a = res.1) (fun _ t => (aR D cy ad0 ba0 res.2) t.heap) ba0) args s 8861 53166 ba0) (F0 m 454 ls [.int y0]) := by
  have hx := X.1
  have hb := X.2.1
  have hown := X.2.2.2.2.1
  intro z0 v2 v3 v4 v12 v14 y0 H locs ls ce sl hb1_ hb2_ hW0 hS hl hf
  unfold hL_hands_454 at hf
  refine lv_istore (lv' := [(6, .int y0), (0, .ref (ad0 360)), (1, .int x1), (2, .int v2), (3, .int v3), (4, .int v4), (12, .int v12), (14, .int v14)]) hx hb dL_hands_454 hl (by decide) rfl (fun ls hl => ?_)
  refine lv_aload_n hx hb dL_hands_456 rfl (lv_at hl 1 rfl) ?_
  refine lv_iconst (v := (0 : Int32)) hx hb dL_hands_457 (by decide) ?_
  refine kA (As := [.ref (ad0 360), .int (0 : Int32)]) (rest := []) X (fun q h => h) hW0 hS (tI_tryBest l D cy ad0 ba0 hl0 z0 (0 : Int32)) (vx_cwSW (hh := [(0, 5, 6, 13)]) 2 X.2.2.2.2.2.1 gL_hands_L_tryBest rfl rfl rfl kdL_tryBest.2 ⟨(Nat.le_of_ble_eq_true rfl), (Nat.le_of_ble_eq_true rfl)⟩) rfl rfl hl.1 (Nat.le_of_ble_eq_true rfl) ⟨by show _ ≤ 8861; omega, by show _ ≤ 53166; omega⟩ dL_hands_458 (fun H locs hW0 hS hz hk => ?_)
  clear hz hk
  refine lv_istore (lv' := [(15, .int (A_tryBest z0 (0 : Int32))), (6, .int y0), (0, .ref (ad0 360)), (1, .int x1), (2, .int v2), (3, .int v3), (4, .int v4), (12, .int v12), (14, .int v14)]) hx hb dL_hands_461 hl (by decide) rfl (fun ls hl => ?_)
  refine lv_aload_n hx hb dL_hands_463 rfl (lv_at hl 2 rfl) ?_
  refine lv_iconst (v := (1 : Int32)) hx hb dL_hands_464 (by decide) ?_
  refine kA (As := [.ref (ad0 360), .int (1 : Int32)]) (rest := []) X (fun q h => h) hW0 hS (tI_tryBest l D cy ad0 ba0 hl0 z0 (1 : Int32)) (vx_cwSW (hh := [(0, 5, 6, 13)]) 2 X.2.2.2.2.2.1 gL_hands_L_tryBest rfl rfl rfl kdL_tryBest.2 ⟨(Nat.le_of_ble_eq_true rfl), (Nat.le_of_ble_eq_true rfl)⟩) rfl rfl hl.1 (Nat.le_of_ble_eq_true rfl) ⟨by show _ ≤ 8861; omega, by show _ ≤ 53166; omega⟩ dL_hands_465 (fun H locs hW0 hS hz hk => ?_)
  clear hz hk
  refine lv_istore (lv' := [(16, .int (A_tryBest z0 (1 : Int32))), (15, .int (A_tryBest z0 (0 : Int32))), (6, .int y0), (0, .ref (ad0 360)), (1, .int x1), (2, .int v2), (3, .int v3), (4, .int v4), (12, .int v12), (14, .int v14)]) hx hb dL_hands_468 hl (by decide) rfl (fun ls hl => ?_)
  refine lv_iload hx hb dL_hands_470 (lv_at hl 2 rfl) ?_
  refine lv_if_eq (tgt := 538) hx hb dL_hands_472 (by decide) (fun c_68 => ?_) (fun c_68 => ?_)
  · replace hf := ite_t c_68 hf
    refine lv_iconst (v := (0 : Int32)) hx hb dL_hands_538 (by decide) ?_
    exact bL_hands_539 (x1 := x1) X hl0 z0 v2 v3 v4 v14 (0 : Int32) _ _ _ _ _ (by omega) (by omega) hW0 hS (lv_sub hl [3, 4, 5, 6, 7, 9] rfl) hf
  · replace hf := ite_f c_68 hf
    refine lv_aload_n hx hb dL_hands_475 rfl (lv_at hl 3 rfl) ?_
    refine lv_iconst (v := (0 : Int32)) hx hb dL_hands_476 (by decide) ?_
    obtain ⟨r_69, z0_11, hq_70, hf⟩ := bd2_some hf
    refine kA (As := [.ref (ad0 360), .int (0 : Int32)]) (rest := []) X (fun q h => h) hW0 hS (tI_tryRestore l D cy ad0 ba0 hl0 hq_70) (vx_cwSW (hh := [(0, 5, 6, 30), (0, 5, 10, 16)]) 2 X.2.2.2.2.2.1 gL_hands_L_tryRestore rfl rfl rfl kdL_tryRestore.2 ⟨(Nat.le_of_ble_eq_true rfl), (Nat.le_of_ble_eq_true rfl)⟩) rfl rfl hl.1 (Nat.le_of_ble_eq_true rfl) ⟨by show _ ≤ 8861; omega, by show _ ≤ 53166; omega⟩ dL_hands_477 (fun H locs hW0 hS hz hk => ?_)
    clear hz hk
    refine lv_iload_n hx hb dL_hands_480 rfl (lv_at hl 6 rfl) ?_
    refine lv_icmp_ne (tgt := 538) hx hb dL_hands_481 (by decide) (fun c_71 => ?_) (fun c_71 => ?_)
    · replace hf := ite_f c_71 hf
      refine lv_iconst (v := (0 : Int32)) hx hb dL_hands_538 (by decide) ?_
      exact bL_hands_539 (x1 := x1) X hl0 z0_11 v2 v3 v4 v14 (0 : Int32) _ _ _ _ _ (by omega) (by omega) hW0 hS (lv_sub hl [3, 4, 5, 6, 7, 9] rfl) hf
    · replace hf := ite_t c_71 hf
      refine lv_aload_n hx hb dL_hands_484 rfl (lv_at hl 3 rfl) ?_
      refine lv_iload hx hb dL_hands_485 (lv_at hl 8 rfl) ?_
      obtain ⟨r_72, z0_12, hq_73, hf⟩ := bd2_some hf
      refine kA (As := [.ref (ad0 360), .int v12]) (rest := []) X (fun q h => h) hW0 hS (tI_tryLeave l D cy ad0 ba0 hl0 hq_73) (vx_cwSW (hh := [(0, 5, 6, 30)]) 2 X.2.2.2.2.2.1 gL_hands_L_tryLeave rfl rfl rfl kdL_tryLeave.2 ⟨(Nat.le_of_ble_eq_true rfl), (Nat.le_of_ble_eq_true rfl)⟩) rfl rfl hl.1 (Nat.le_of_ble_eq_true rfl) ⟨by show _ ≤ 8861; omega, by show _ ≤ 53166; omega⟩ dL_hands_487 (fun H locs hW0 hS hz hk => ?_)
      clear hz hk
      refine lv_ldc (v := (-99003 : Int32)) hx hb hown (X.2.2.2.2.2.1 _ wL_hands_18) dL_hands_490 ?_
      refine lv_icmp_le (tgt := 538) hx hb dL_hands_492 (by decide) (fun c_74 => ?_) (fun c_74 => ?_)
      · replace hf := ite_t c_74 hf
        refine lv_iconst (v := (0 : Int32)) hx hb dL_hands_538 (by decide) ?_
        exact bL_hands_539 (x1 := x1) X hl0 z0_12 v2 v3 v4 v14 (0 : Int32) _ _ _ _ _ (by omega) (by omega) hW0 hS (lv_sub hl [3, 4, 5, 6, 7, 9] rfl) hf
      · replace hf := ite_f c_74 hf
        refine lv_aload_n hx hb dL_hands_495 rfl (lv_at hl 3 rfl) ?_
        refine lv_iconst (v := (0 : Int32)) hx hb dL_hands_496 (by decide) ?_
        refine kA (As := [.ref (ad0 360), .int (0 : Int32)]) (rest := []) X (fun q h => h) hW0 hS (tI_tryBest l D cy ad0 ba0 hl0 z0_12 (0 : Int32)) (vx_cwSW (hh := [(0, 5, 6, 13)]) 2 X.2.2.2.2.2.1 gL_hands_L_tryBest rfl rfl rfl kdL_tryBest.2 ⟨(Nat.le_of_ble_eq_true rfl), (Nat.le_of_ble_eq_true rfl)⟩) rfl rfl hl.1 (Nat.le_of_ble_eq_true rfl) ⟨by show _ ≤ 8861; omega, by show _ ≤ 53166; omega⟩ dL_hands_497 (fun H locs hW0 hS hz hk => ?_)
        clear hz hk
        refine lv_iload hx hb dL_hands_500 (lv_at hl 1 rfl) ?_
        refine lv_icmp_lt (tgt := 525) hx hb dL_hands_502 (by decide) (fun c_75 => ?_) (fun c_75 => ?_)
        · replace hf := ite_t c_75 hf
          refine lv_aload_n hx hb dL_hands_525 rfl (lv_at hl 3 rfl) ?_
          refine lv_iconst (v := (0 : Int32)) hx hb dL_hands_526 (by decide) ?_
          obtain ⟨r_76, z0_13, hq_77, hf⟩ := bd2_some hf
          refine kA (As := [.ref (ad0 360), .int (0 : Int32)]) (rest := []) X (fun q h => h) hW0 hS (tI_tryRestore l D cy ad0 ba0 hl0 hq_77) (vx_cwSW (hh := [(0, 5, 6, 30), (0, 5, 10, 16)]) 2 X.2.2.2.2.2.1 gL_hands_L_tryRestore rfl rfl rfl kdL_tryRestore.2 ⟨(Nat.le_of_ble_eq_true rfl), (Nat.le_of_ble_eq_true rfl)⟩) rfl rfl hl.1 (Nat.le_of_ble_eq_true rfl) ⟨by show _ ≤ 8861; omega, by show _ ≤ 53166; omega⟩ dL_hands_527 (fun H locs hW0 hS hz hk => ?_)
          clear hz hk
          refine lv_iload_n hx hb dL_hands_530 rfl (lv_at hl 6 rfl) ?_
          refine lv_icmp_ne (tgt := 538) hx hb dL_hands_531 (by decide) (fun c_78 => ?_) (fun c_78 => ?_)
          · replace hf := ite_f c_78 hf
            refine lv_iconst (v := (0 : Int32)) hx hb dL_hands_538 (by decide) ?_
            exact bL_hands_539 (x1 := x1) X hl0 z0_13 v2 v3 v4 v14 (0 : Int32) _ _ _ _ _ (by omega) (by omega) hW0 hS (lv_sub hl [3, 4, 5, 6, 7, 9] rfl) hf
          · replace hf := ite_t c_78 hf
            refine lv_iconst (v := (1 : Int32)) hx hb dL_hands_534 (by decide) ?_
            refine lv_goto (tgt := 539) hx hb dL_hands_535 (by decide) ?_
            exact bL_hands_539 (x1 := x1) X hl0 z0_13 v2 v3 v4 v14 (1 : Int32) _ _ _ _ _ (by omega) (by omega) hW0 hS (lv_sub hl [3, 4, 5, 6, 7, 9] rfl) hf
        · replace hf := ite_f c_75 hf
          refine lv_aload_n hx hb dL_hands_505 rfl (lv_at hl 3 rfl) ?_
          refine lv_iconst (v := (0 : Int32)) hx hb dL_hands_506 (by decide) ?_
          refine kA (As := [.ref (ad0 360), .int (0 : Int32)]) (rest := []) X (fun q h => h) hW0 hS (tI_tryBest l D cy ad0 ba0 hl0 z0_12 (0 : Int32)) (vx_cwSW (hh := [(0, 5, 6, 13)]) 2 X.2.2.2.2.2.1 gL_hands_L_tryBest rfl rfl rfl kdL_tryBest.2 ⟨(Nat.le_of_ble_eq_true rfl), (Nat.le_of_ble_eq_true rfl)⟩) rfl rfl hl.1 (Nat.le_of_ble_eq_true rfl) ⟨by show _ ≤ 8861; omega, by show _ ≤ 53166; omega⟩ dL_hands_507 (fun H locs hW0 hS hz hk => ?_)
          clear hz hk
          refine lv_iload hx hb dL_hands_510 (lv_at hl 1 rfl) ?_
          refine lv_icmp_ne (tgt := 538) hx hb dL_hands_512 (by decide) (fun c_79 => ?_) (fun c_79 => ?_)
          · replace hf := ite_f c_79 hf
            refine lv_iconst (v := (0 : Int32)) hx hb dL_hands_538 (by decide) ?_
            exact bL_hands_539 (x1 := x1) X hl0 z0_12 v2 v3 v4 v14 (0 : Int32) _ _ _ _ _ (by omega) (by omega) hW0 hS (lv_sub hl [3, 4, 5, 6, 7, 9] rfl) hf
          · replace hf := ite_t c_79 hf
            refine lv_aload_n hx hb dL_hands_515 rfl (lv_at hl 3 rfl) ?_
            refine lv_iconst (v := (1 : Int32)) hx hb dL_hands_516 (by decide) ?_
            refine kA (As := [.ref (ad0 360), .int (1 : Int32)]) (rest := []) X (fun q h => h) hW0 hS (tI_tryBest l D cy ad0 ba0 hl0 z0_12 (1 : Int32)) (vx_cwSW (hh := [(0, 5, 6, 13)]) 2 X.2.2.2.2.2.1 gL_hands_L_tryBest rfl rfl rfl kdL_tryBest.2 ⟨(Nat.le_of_ble_eq_true rfl), (Nat.le_of_ble_eq_true rfl)⟩) rfl rfl hl.1 (Nat.le_of_ble_eq_true rfl) ⟨by show _ ≤ 8861; omega, by show _ ≤ 53166; omega⟩ dL_hands_517 (fun H locs hW0 hS hz hk => ?_)
            clear hz hk
            refine lv_iload hx hb dL_hands_520 (lv_at hl 0 rfl) ?_
            refine lv_icmp_gt (tgt := 538) hx hb dL_hands_522 (by decide) (fun c_80 => ?_) (fun c_80 => ?_)
            · replace hf := ite_t c_80 hf
              refine lv_iconst (v := (0 : Int32)) hx hb dL_hands_538 (by decide) ?_
              exact bL_hands_539 (x1 := x1) X hl0 z0_12 v2 v3 v4 v14 (0 : Int32) _ _ _ _ _ (by omega) (by omega) hW0 hS (lv_sub hl [3, 4, 5, 6, 7, 9] rfl) hf
            · replace hf := ite_f c_80 hf
              refine lv_aload_n hx hb dL_hands_525 rfl (lv_at hl 3 rfl) ?_
              refine lv_iconst (v := (0 : Int32)) hx hb dL_hands_526 (by decide) ?_
              obtain ⟨r_81, z0_14, hq_82, hf⟩ := bd2_some hf
              refine kA (As := [.ref (ad0 360), .int (0 : Int32)]) (rest := []) X (fun q h => h) hW0 hS (tI_tryRestore l D cy ad0 ba0 hl0 hq_82) (vx_cwSW (hh := [(0, 5, 6, 30), (0, 5, 10, 16)]) 2 X.2.2.2.2.2.1 gL_hands_L_tryRestore rfl rfl rfl kdL_tryRestore.2 ⟨(Nat.le_of_ble_eq_true rfl), (Nat.le_of_ble_eq_true rfl)⟩) rfl rfl hl.1 (Nat.le_of_ble_eq_true rfl) ⟨by show _ ≤ 8861; omega, by show _ ≤ 53166; omega⟩ dL_hands_527 (fun H locs hW0 hS hz hk => ?_)
              clear hz hk
              refine lv_iload_n hx hb dL_hands_530 rfl (lv_at hl 6 rfl) ?_
              refine lv_icmp_ne (tgt := 538) hx hb dL_hands_531 (by decide) (fun c_83 => ?_) (fun c_83 => ?_)
              · replace hf := ite_f c_83 hf
                refine lv_iconst (v := (0 : Int32)) hx hb dL_hands_538 (by decide) ?_
                exact bL_hands_539 (x1 := x1) X hl0 z0_14 v2 v3 v4 v14 (0 : Int32) _ _ _ _ _ (by omega) (by omega) hW0 hS (lv_sub hl [3, 4, 5, 6, 7, 9] rfl) hf
              · replace hf := ite_t c_83 hf
                refine lv_iconst (v := (1 : Int32)) hx hb dL_hands_534 (by decide) ?_
                refine lv_goto (tgt := 539) hx hb dL_hands_535 (by decide) ?_
                exact bL_hands_539 (x1 := x1) X hl0 z0_14 v2 v3 v4 v14 (1 : Int32) _ _ _ _ _ (by omega) (by omega) hW0 hS (lv_sub hl [3, 4, 5, 6, 7, 9] rfl) hf
set_option maxRecDepth 100000 in
set_option maxHeartbeats 4000000 in
theorem bL_hands_453 {p : Program} {l : Launch} {e : Env} {s : State} {m : MethodId} {args : Array Value} {below : List Frame} {meth : Method} {c : Code} {D : va_G} {cy : Nat → ClassId} {ad0 : Nat → Nat} {ba0 : Nat → Prop} {x1 : Int32} {res : (Int32 × aS)} (X : teC wsL_hands RL cL_hands 26 (some .boolean) D cy ba0 p s m args meth c) (hl0 : l.stackTraces = false) : ∀ (z0 : aS) (v2 : Int32) (v3 : Int32) (v4 : Int32) (v12 : Int32) (v14 : Int32) (H : Heap) (locs : List Loc) (ls : Array Slot) (ce sl : Nat), ce + (145) ≤ 8861 → sl + (870) ≤ 53166 → aR D cy ad0 ba0 z0 H → va_S ba0 s.heap H locs → lv_has ls 26 [(0, .ref (ad0 360)), (1, .int x1), (2, .int v2), (3, .int v3), (4, .int v4), (12, .int v12), (14, .int v14)] → hL_hands_453 x1 z0 v2 v3 v4 v12 v14 = some res → W p l e (headSpec wsL_hands rmL_hands).room s m args below meth c H locs ce sl (MQ below (va_Qi (fun a (_ : Unit) => a = res.1) (fun _ t => (aR D cy ad0 ba0 res.2) t.heap) ba0) args s 8861 53166 ba0) (F0 m 453 ls []) := by
  have hx := X.1
  have hb := X.2.1
  have hown := X.2.2.2.2.1
  intro z0 v2 v3 v4 v12 v14 H locs ls ce sl hb1_ hb2_ hW0 hS hl hf
  unfold hL_hands_453 at hf
  refine lv_iconst (v := (0 : Int32)) hx hb dL_hands_453 (by decide) ?_
  exact bL_hands_454 (x1 := x1) X hl0 z0 v2 v3 v4 v12 v14 (0 : Int32) _ _ _ _ _ (by omega) (by omega) hW0 hS (lv_sub hl [0, 1, 2, 3, 4, 5, 6] rfl) hf
set_option maxRecDepth 100000 in
set_option maxHeartbeats 4000000 in
theorem bL_hands_321 {p : Program} {l : Launch} {e : Env} {s : State} {m : MethodId} {args : Array Value} {below : List Frame} {meth : Method} {c : Code} {D : va_G} {cy : Nat → ClassId} {ad0 : Nat → Nat} {ba0 : Nat → Prop} {x1 : Int32} {res : (Int32 × aS)} (X : teC wsL_hands RL cL_hands 26 (some .boolean) D cy ba0 p s m args meth c) (hl0 : l.stackTraces = false) : ∀ (z0 : aS) (v2 : Int32) (v3 : Int32) (v4 : Int32) (y0 : Int32) (H : Heap) (locs : List Loc) (ls : Array Slot) (ce sl : Nat), ce + (2954) ≤ 8861 → sl + (17724) ≤ 53166 → aR D cy ad0 ba0 z0 H → va_S ba0 s.heap H locs → lv_has ls 26 [(0, .ref (ad0 360)), (1, .int x1), (2, .int v2), (3, .int v3), (4, .int v4)] → hL_hands_321 x1 z0 v2 v3 v4 y0 = some res → W p l e (headSpec wsL_hands rmL_hands).room s m args below meth c H locs ce sl (MQ below (va_Qi (fun a (_ : Unit) => a = res.1) (fun _ t => (aR D cy ad0 ba0 res.2) t.heap) ba0) args s 8861 53166 ba0) (F0 m 321 ls [.int y0]) := by
  have hx := X.1
  have hb := X.2.1
  have hown := X.2.2.2.2.1
  intro z0 v2 v3 v4 y0 H locs ls ce sl hb1_ hb2_ hW0 hS hl hf
  unfold hL_hands_321 at hf
  refine lv_istore (lv' := [(6, .int y0), (0, .ref (ad0 360)), (1, .int x1), (2, .int v2), (3, .int v3), (4, .int v4)]) hx hb dL_hands_321 hl (by decide) rfl (fun ls hl => ?_)
  refine lv_aload_n hx hb dL_hands_323 rfl (lv_at hl 1 rfl) ?_
  refine lv_iconst (v := (0 : Int32)) hx hb dL_hands_324 (by decide) ?_
  refine kA (As := [.ref (ad0 360), .int (0 : Int32)]) (rest := []) X (fun q h => h) hW0 hS (tI_tryBest l D cy ad0 ba0 hl0 z0 (0 : Int32)) (vx_cwSW (hh := [(0, 5, 6, 13)]) 2 X.2.2.2.2.2.1 gL_hands_L_tryBest rfl rfl rfl kdL_tryBest.2 ⟨(Nat.le_of_ble_eq_true rfl), (Nat.le_of_ble_eq_true rfl)⟩) rfl rfl hl.1 (Nat.le_of_ble_eq_true rfl) ⟨by show _ ≤ 8861; omega, by show _ ≤ 53166; omega⟩ dL_hands_325 (fun H locs hW0 hS hz hk => ?_)
  clear hz hk
  refine lv_istore (lv' := [(10, .int (A_tryBest z0 (0 : Int32))), (6, .int y0), (0, .ref (ad0 360)), (1, .int x1), (2, .int v2), (3, .int v3), (4, .int v4)]) hx hb dL_hands_328 hl (by decide) rfl (fun ls hl => ?_)
  refine lv_aload_n hx hb dL_hands_330 rfl (lv_at hl 2 rfl) ?_
  refine lv_iconst (v := (1 : Int32)) hx hb dL_hands_331 (by decide) ?_
  refine kA (As := [.ref (ad0 360), .int (1 : Int32)]) (rest := []) X (fun q h => h) hW0 hS (tI_tryBest l D cy ad0 ba0 hl0 z0 (1 : Int32)) (vx_cwSW (hh := [(0, 5, 6, 13)]) 2 X.2.2.2.2.2.1 gL_hands_L_tryBest rfl rfl rfl kdL_tryBest.2 ⟨(Nat.le_of_ble_eq_true rfl), (Nat.le_of_ble_eq_true rfl)⟩) rfl rfl hl.1 (Nat.le_of_ble_eq_true rfl) ⟨by show _ ≤ 8861; omega, by show _ ≤ 53166; omega⟩ dL_hands_332 (fun H locs hW0 hS hz hk => ?_)
  clear hz hk
  refine lv_istore (lv' := [(11, .int (A_tryBest z0 (1 : Int32))), (10, .int (A_tryBest z0 (0 : Int32))), (6, .int y0), (0, .ref (ad0 360)), (1, .int x1), (2, .int v2), (3, .int v3), (4, .int v4)]) hx hb dL_hands_335 hl (by decide) rfl (fun ls hl => ?_)
  refine lv_aload_n hx hb dL_hands_337 rfl (lv_at hl 3 rfl) ?_
  refine kD (As := []) (rest := []) X (fun q h => h) hW0 hS (tD_missedMost l D cy ad0 ba0 z0) (cwV 0 X.2.2.2.2.2.1 gL_hands_X5_missedMost rfl rfl rfl kdX5_missedMost ⟨(Nat.le_of_ble_eq_true rfl), (Nat.le_of_ble_eq_true rfl)⟩) rfl rfl hl.1 (Nat.le_of_ble_eq_true rfl) ⟨by show _ ≤ 8861; omega, by show _ ≤ 53166; omega⟩ dL_hands_338 (fun H locs hW0 hS hz hk => ?_)
  clear hz hk
  refine lv_istore (lv' := [(12, .int (A_missedMost z0)), (11, .int (A_tryBest z0 (1 : Int32))), (10, .int (A_tryBest z0 (0 : Int32))), (6, .int y0), (0, .ref (ad0 360)), (1, .int x1), (2, .int v2), (3, .int v3), (4, .int v4)]) hx hb dL_hands_341 hl (by decide) rfl (fun ls hl => ?_)
  refine lv_aload_n hx hb dL_hands_343 rfl (lv_at hl 4 rfl) ?_
  refine lv_iconst (v := (5 : Int32)) hx hb dL_hands_344 (by decide) ?_
  refine kA (As := [.ref (ad0 360), .int (5 : Int32)]) (rest := []) X (fun q h => h) hW0 hS (tI_tryAbout l D cy ad0 ba0 hl0 z0 (5 : Int32)) (vx_cwSW (hh := [(0, 5, 6, 13)]) 2 X.2.2.2.2.2.1 gL_hands_L_tryAbout rfl rfl rfl kdL_tryAbout.2 ⟨(Nat.le_of_ble_eq_true rfl), (Nat.le_of_ble_eq_true rfl)⟩) rfl rfl hl.1 (Nat.le_of_ble_eq_true rfl) ⟨by show _ ≤ 8861; omega, by show _ ≤ 53166; omega⟩ dL_hands_345 (fun H locs hW0 hS hz hk => ?_)
  clear hz hk
  refine lv_istore (lv' := [(13, .int (A_tryAbout z0 (5 : Int32))), (12, .int (A_missedMost z0)), (11, .int (A_tryBest z0 (1 : Int32))), (10, .int (A_tryBest z0 (0 : Int32))), (6, .int y0), (0, .ref (ad0 360)), (1, .int x1), (2, .int v2), (3, .int v3), (4, .int v4)]) hx hb dL_hands_348 hl (by decide) rfl (fun ls hl => ?_)
  refine lv_aload_n hx hb dL_hands_350 rfl (lv_at hl 5 rfl) ?_
  refine lv_iload hx hb dL_hands_351 (lv_at hl 9 rfl) ?_
  refine lv_bipush (v := (6 : Int32)) hx hb dL_hands_353 (by decide) ?_
  refine kA (As := [.ref (ad0 360), .int v4, .int (6 : Int32)]) (rest := []) X (fun q h => h) hW0 hS (tI_tryMember l D cy ad0 ba0 hl0 z0 v4 (6 : Int32)) (vx_cwSW (hh := [(0, 6, 7, 30), (0, 6, 11, 13)]) 3 X.2.2.2.2.2.1 gL_hands_L_tryMember rfl rfl rfl kdL_tryMember.2 ⟨(Nat.le_of_ble_eq_true rfl), (Nat.le_of_ble_eq_true rfl)⟩) rfl rfl hl.1 (Nat.le_of_ble_eq_true rfl) ⟨by show _ ≤ 8861; omega, by show _ ≤ 53166; omega⟩ dL_hands_355 (fun H locs hW0 hS hz hk => ?_)
  clear hz hk
  refine lv_istore (lv' := [(14, .int (A_tryMember z0 v4 (6 : Int32))), (13, .int (A_tryAbout z0 (5 : Int32))), (12, .int (A_missedMost z0)), (11, .int (A_tryBest z0 (1 : Int32))), (10, .int (A_tryBest z0 (0 : Int32))), (6, .int y0), (0, .ref (ad0 360)), (1, .int x1), (2, .int v2), (3, .int v3), (4, .int v4)]) hx hb dL_hands_358 hl (by decide) rfl (fun ls hl => ?_)
  refine lv_iload hx hb dL_hands_360 (lv_at hl 5 rfl) ?_
  refine lv_if_eq (tgt := 453) hx hb dL_hands_362 (by decide) (fun c_46 => ?_) (fun c_46 => ?_)
  · replace hf := ite_t c_46 hf
    exact bL_hands_453 (x1 := x1) X hl0 z0 v2 v3 v4 (A_missedMost z0) (A_tryMember z0 v4 (6 : Int32)) _ _ _ _ _ (by omega) (by omega) hW0 hS (lv_sub hl [6, 7, 8, 9, 10, 2, 0] rfl) hf
  · replace hf := ite_f c_46 hf
    refine lv_aload_n hx hb dL_hands_365 rfl (lv_at hl 6 rfl) ?_
    refine lv_iload hx hb dL_hands_366 (lv_at hl 10 rfl) ?_
    obtain ⟨r_47, z0_9, hq_48, hf⟩ := bd2_some hf
    refine kA (As := [.ref (ad0 360), .int v4]) (rest := []) X (fun q h => h) hW0 hS (tI_tryLeave l D cy ad0 ba0 hl0 hq_48) (vx_cwSW (hh := [(0, 5, 6, 30)]) 2 X.2.2.2.2.2.1 gL_hands_L_tryLeave rfl rfl rfl kdL_tryLeave.2 ⟨(Nat.le_of_ble_eq_true rfl), (Nat.le_of_ble_eq_true rfl)⟩) rfl rfl hl.1 (Nat.le_of_ble_eq_true rfl) ⟨by show _ ≤ 8861; omega, by show _ ≤ 53166; omega⟩ dL_hands_368 (fun H locs hW0 hS hz hk => ?_)
    clear hz hk
    refine lv_iload hx hb dL_hands_371 (lv_at hl 0 rfl) ?_
    refine lv_icmp_ne (tgt := 453) hx hb dL_hands_373 (by decide) (fun c_49 => ?_) (fun c_49 => ?_)
    · replace hf := ite_f c_49 hf
      exact bL_hands_453 (x1 := x1) X hl0 z0_9 v2 v3 v4 (A_missedMost z0) (A_tryMember z0 v4 (6 : Int32)) _ _ _ _ _ (by omega) (by omega) hW0 hS (lv_sub hl [6, 7, 8, 9, 10, 2, 0] rfl) hf
    · replace hf := ite_t c_49 hf
      refine lv_aload_n hx hb dL_hands_376 rfl (lv_at hl 6 rfl) ?_
      refine lv_iconst (v := (0 : Int32)) hx hb dL_hands_377 (by decide) ?_
      refine kA (As := [.ref (ad0 360), .int (0 : Int32)]) (rest := []) X (fun q h => h) hW0 hS (tI_tryAbout l D cy ad0 ba0 hl0 z0_9 (0 : Int32)) (vx_cwSW (hh := [(0, 5, 6, 13)]) 2 X.2.2.2.2.2.1 gL_hands_L_tryAbout rfl rfl rfl kdL_tryAbout.2 ⟨(Nat.le_of_ble_eq_true rfl), (Nat.le_of_ble_eq_true rfl)⟩) rfl rfl hl.1 (Nat.le_of_ble_eq_true rfl) ⟨by show _ ≤ 8861; omega, by show _ ≤ 53166; omega⟩ dL_hands_378 (fun H locs hW0 hS hz hk => ?_)
      clear hz hk
      refine lv_iload_n hx hb dL_hands_381 rfl (lv_at hl 8 rfl) ?_
      refine lv_iconst (v := (1 : Int32)) hx hb dL_hands_382 (by decide) ?_
      refine lv_isub hx hb dL_hands_383 ?_
      refine lv_icmp_ne (tgt := 453) hx hb dL_hands_384 (by decide) (fun c_50 => ?_) (fun c_50 => ?_)
      · replace hf := ite_f c_50 hf
        exact bL_hands_453 (x1 := x1) X hl0 z0_9 v2 v3 v4 (A_missedMost z0) (A_tryMember z0 v4 (6 : Int32)) _ _ _ _ _ (by omega) (by omega) hW0 hS (lv_sub hl [6, 7, 8, 9, 10, 2, 0] rfl) hf
      · replace hf := ite_t c_50 hf
        refine lv_aload_n hx hb dL_hands_387 rfl (lv_at hl 6 rfl) ?_
        refine lv_iconst (v := (5 : Int32)) hx hb dL_hands_388 (by decide) ?_
        refine kA (As := [.ref (ad0 360), .int (5 : Int32)]) (rest := []) X (fun q h => h) hW0 hS (tI_tryAbout l D cy ad0 ba0 hl0 z0_9 (5 : Int32)) (vx_cwSW (hh := [(0, 5, 6, 13)]) 2 X.2.2.2.2.2.1 gL_hands_L_tryAbout rfl rfl rfl kdL_tryAbout.2 ⟨(Nat.le_of_ble_eq_true rfl), (Nat.le_of_ble_eq_true rfl)⟩) rfl rfl hl.1 (Nat.le_of_ble_eq_true rfl) ⟨by show _ ≤ 8861; omega, by show _ ≤ 53166; omega⟩ dL_hands_389 (fun H locs hW0 hS hz hk => ?_)
        clear hz hk
        refine lv_iload hx hb dL_hands_392 (lv_at hl 1 rfl) ?_
        refine lv_iload hx hb dL_hands_394 (lv_at hl 0 rfl) ?_
        refine lv_isub hx hb dL_hands_396 ?_
        refine lv_icmp_ne (tgt := 453) hx hb dL_hands_397 (by decide) (fun c_51 => ?_) (fun c_51 => ?_)
        · replace hf := ite_f c_51 hf
          exact bL_hands_453 (x1 := x1) X hl0 z0_9 v2 v3 v4 (A_missedMost z0) (A_tryMember z0 v4 (6 : Int32)) _ _ _ _ _ (by omega) (by omega) hW0 hS (lv_sub hl [6, 7, 8, 9, 10, 2, 0] rfl) hf
        · replace hf := ite_t c_51 hf
          refine lv_aload_n hx hb dL_hands_400 rfl (lv_at hl 6 rfl) ?_
          refine lv_iconst (v := (0 : Int32)) hx hb dL_hands_401 (by decide) ?_
          refine kA (As := [.ref (ad0 360), .int (0 : Int32)]) (rest := []) X (fun q h => h) hW0 hS (tI_tryBest l D cy ad0 ba0 hl0 z0_9 (0 : Int32)) (vx_cwSW (hh := [(0, 5, 6, 13)]) 2 X.2.2.2.2.2.1 gL_hands_L_tryBest rfl rfl rfl kdL_tryBest.2 ⟨(Nat.le_of_ble_eq_true rfl), (Nat.le_of_ble_eq_true rfl)⟩) rfl rfl hl.1 (Nat.le_of_ble_eq_true rfl) ⟨by show _ ≤ 8861; omega, by show _ ≤ 53166; omega⟩ dL_hands_402 (fun H locs hW0 hS hz hk => ?_)
          clear hz hk
          refine lv_iload hx hb dL_hands_405 (lv_at hl 4 rfl) ?_
          refine lv_icmp_gt (tgt := 453) hx hb dL_hands_407 (by decide) (fun c_52 => ?_) (fun c_52 => ?_)
          · replace hf := ite_t c_52 hf
            exact bL_hands_453 (x1 := x1) X hl0 z0_9 v2 v3 v4 (A_missedMost z0) (A_tryMember z0 v4 (6 : Int32)) _ _ _ _ _ (by omega) (by omega) hW0 hS (lv_sub hl [6, 7, 8, 9, 10, 2, 0] rfl) hf
          · replace hf := ite_f c_52 hf
            refine lv_aload_n hx hb dL_hands_410 rfl (lv_at hl 6 rfl) ?_
            refine lv_iconst (v := (0 : Int32)) hx hb dL_hands_411 (by decide) ?_
            refine kA (As := [.ref (ad0 360), .int (0 : Int32)]) (rest := []) X (fun q h => h) hW0 hS (tI_tryBest l D cy ad0 ba0 hl0 z0_9 (0 : Int32)) (vx_cwSW (hh := [(0, 5, 6, 13)]) 2 X.2.2.2.2.2.1 gL_hands_L_tryBest rfl rfl rfl kdL_tryBest.2 ⟨(Nat.le_of_ble_eq_true rfl), (Nat.le_of_ble_eq_true rfl)⟩) rfl rfl hl.1 (Nat.le_of_ble_eq_true rfl) ⟨by show _ ≤ 8861; omega, by show _ ≤ 53166; omega⟩ dL_hands_412 (fun H locs hW0 hS hz hk => ?_)
            clear hz hk
            refine lv_iload hx hb dL_hands_415 (lv_at hl 4 rfl) ?_
            refine lv_iconst (v := (1 : Int32)) hx hb dL_hands_417 (by decide) ?_
            refine lv_isub hx hb dL_hands_418 ?_
            refine lv_icmp_lt (tgt := 453) hx hb dL_hands_419 (by decide) (fun c_53 => ?_) (fun c_53 => ?_)
            · replace hf := ite_t c_53 hf
              exact bL_hands_453 (x1 := x1) X hl0 z0_9 v2 v3 v4 (A_missedMost z0) (A_tryMember z0 v4 (6 : Int32)) _ _ _ _ _ (by omega) (by omega) hW0 hS (lv_sub hl [6, 7, 8, 9, 10, 2, 0] rfl) hf
            · replace hf := ite_f c_53 hf
              refine lv_aload_n hx hb dL_hands_422 rfl (lv_at hl 6 rfl) ?_
              refine lv_iconst (v := (0 : Int32)) hx hb dL_hands_423 (by decide) ?_
              refine kA (As := [.ref (ad0 360), .int (0 : Int32)]) (rest := []) X (fun q h => h) hW0 hS (tI_tryBest l D cy ad0 ba0 hl0 z0_9 (0 : Int32)) (vx_cwSW (hh := [(0, 5, 6, 13)]) 2 X.2.2.2.2.2.1 gL_hands_L_tryBest rfl rfl rfl kdL_tryBest.2 ⟨(Nat.le_of_ble_eq_true rfl), (Nat.le_of_ble_eq_true rfl)⟩) rfl rfl hl.1 (Nat.le_of_ble_eq_true rfl) ⟨by show _ ≤ 8861; omega, by show _ ≤ 53166; omega⟩ dL_hands_424 (fun H locs hW0 hS hz hk => ?_)
              clear hz hk
              refine lv_iload hx hb dL_hands_427 (lv_at hl 4 rfl) ?_
              refine lv_icmp_lt (tgt := 442) hx hb dL_hands_429 (by decide) (fun c_54 => ?_) (fun c_54 => ?_)
              · replace hf := ite_t c_54 hf
                refine lv_aload_n hx hb dL_hands_442 rfl (lv_at hl 6 rfl) ?_
                obtain ⟨r_55, hq_56, hf⟩ := bd1_some hf
                refine kB (As := [.ref (ad0 360)]) (rest := []) X (fun q h => h) hW0 aX_no hS (zcL_sound l D cy ad0 ba0 hl0 _ hq_56) (va_cwS 1 X.2.2.2.2.2.1 gL_hands_L_sound rfl rfl rfl kdL_sound.2 ⟨(Nat.le_of_ble_eq_true rfl), (Nat.le_of_ble_eq_true rfl)⟩) rfl rfl hl.1 (Nat.le_of_ble_eq_true rfl) ⟨by show _ ≤ 8861; omega, by show _ ≤ 53166; omega⟩ dL_hands_443 (fun H locs hW0 hS hz hk => ?_)
                clear hz hk
                refine lv_if_eq (tgt := 453) hx hb dL_hands_446 (by decide) (fun c_57 => ?_) (fun c_57 => ?_)
                · replace hf := ite_t c_57 hf
                  exact bL_hands_453 (x1 := x1) X hl0 z0_9 v2 v3 v4 (A_missedMost z0) (A_tryMember z0 v4 (6 : Int32)) _ _ _ _ _ (by omega) (by omega) hW0 hS (lv_sub hl [6, 7, 8, 9, 10, 2, 0] rfl) hf
                · replace hf := ite_f c_57 hf
                  refine lv_iconst (v := (1 : Int32)) hx hb dL_hands_449 (by decide) ?_
                  refine lv_goto (tgt := 454) hx hb dL_hands_450 (by decide) ?_
                  exact bL_hands_454 (x1 := x1) X hl0 z0_9 v2 v3 v4 (A_missedMost z0) (A_tryMember z0 v4 (6 : Int32)) (1 : Int32) _ _ _ _ _ (by omega) (by omega) hW0 hS (lv_sub hl [6, 7, 8, 9, 10, 2, 0] rfl) hf
              · replace hf := ite_f c_54 hf
                refine lv_aload_n hx hb dL_hands_432 rfl (lv_at hl 6 rfl) ?_
                refine lv_iconst (v := (1 : Int32)) hx hb dL_hands_433 (by decide) ?_
                refine kA (As := [.ref (ad0 360), .int (1 : Int32)]) (rest := []) X (fun q h => h) hW0 hS (tI_tryBest l D cy ad0 ba0 hl0 z0_9 (1 : Int32)) (vx_cwSW (hh := [(0, 5, 6, 13)]) 2 X.2.2.2.2.2.1 gL_hands_L_tryBest rfl rfl rfl kdL_tryBest.2 ⟨(Nat.le_of_ble_eq_true rfl), (Nat.le_of_ble_eq_true rfl)⟩) rfl rfl hl.1 (Nat.le_of_ble_eq_true rfl) ⟨by show _ ≤ 8861; omega, by show _ ≤ 53166; omega⟩ dL_hands_434 (fun H locs hW0 hS hz hk => ?_)
                clear hz hk
                refine lv_iload hx hb dL_hands_437 (lv_at hl 3 rfl) ?_
                refine lv_icmp_gt (tgt := 453) hx hb dL_hands_439 (by decide) (fun c_58 => ?_) (fun c_58 => ?_)
                · replace hf := ite_t c_58 hf
                  exact bL_hands_453 (x1 := x1) X hl0 z0_9 v2 v3 v4 (A_missedMost z0) (A_tryMember z0 v4 (6 : Int32)) _ _ _ _ _ (by omega) (by omega) hW0 hS (lv_sub hl [6, 7, 8, 9, 10, 2, 0] rfl) hf
                · replace hf := ite_f c_58 hf
                  refine lv_aload_n hx hb dL_hands_442 rfl (lv_at hl 6 rfl) ?_
                  obtain ⟨r_59, hq_60, hf⟩ := bd1_some hf
                  refine kB (As := [.ref (ad0 360)]) (rest := []) X (fun q h => h) hW0 aX_no hS (zcL_sound l D cy ad0 ba0 hl0 _ hq_60) (va_cwS 1 X.2.2.2.2.2.1 gL_hands_L_sound rfl rfl rfl kdL_sound.2 ⟨(Nat.le_of_ble_eq_true rfl), (Nat.le_of_ble_eq_true rfl)⟩) rfl rfl hl.1 (Nat.le_of_ble_eq_true rfl) ⟨by show _ ≤ 8861; omega, by show _ ≤ 53166; omega⟩ dL_hands_443 (fun H locs hW0 hS hz hk => ?_)
                  clear hz hk
                  refine lv_if_eq (tgt := 453) hx hb dL_hands_446 (by decide) (fun c_61 => ?_) (fun c_61 => ?_)
                  · replace hf := ite_t c_61 hf
                    exact bL_hands_453 (x1 := x1) X hl0 z0_9 v2 v3 v4 (A_missedMost z0) (A_tryMember z0 v4 (6 : Int32)) _ _ _ _ _ (by omega) (by omega) hW0 hS (lv_sub hl [6, 7, 8, 9, 10, 2, 0] rfl) hf
                  · replace hf := ite_f c_61 hf
                    refine lv_iconst (v := (1 : Int32)) hx hb dL_hands_449 (by decide) ?_
                    refine lv_goto (tgt := 454) hx hb dL_hands_450 (by decide) ?_
                    exact bL_hands_454 (x1 := x1) X hl0 z0_9 v2 v3 v4 (A_missedMost z0) (A_tryMember z0 v4 (6 : Int32)) (1 : Int32) _ _ _ _ _ (by omega) (by omega) hW0 hS (lv_sub hl [6, 7, 8, 9, 10, 2, 0] rfl) hf
set_option maxRecDepth 100000 in
set_option maxHeartbeats 4000000 in
theorem bL_hands_320 {p : Program} {l : Launch} {e : Env} {s : State} {m : MethodId} {args : Array Value} {below : List Frame} {meth : Method} {c : Code} {D : va_G} {cy : Nat → ClassId} {ad0 : Nat → Nat} {ba0 : Nat → Prop} {x1 : Int32} {res : (Int32 × aS)} (X : teC wsL_hands RL cL_hands 26 (some .boolean) D cy ba0 p s m args meth c) (hl0 : l.stackTraces = false) : ∀ (z0 : aS) (v2 : Int32) (v3 : Int32) (v4 : Int32) (H : Heap) (locs : List Loc) (ls : Array Slot) (ce sl : Nat), ce + (2954) ≤ 8861 → sl + (17724) ≤ 53166 → aR D cy ad0 ba0 z0 H → va_S ba0 s.heap H locs → lv_has ls 26 [(0, .ref (ad0 360)), (1, .int x1), (2, .int v2), (3, .int v3), (4, .int v4)] → hL_hands_320 x1 z0 v2 v3 v4 = some res → W p l e (headSpec wsL_hands rmL_hands).room s m args below meth c H locs ce sl (MQ below (va_Qi (fun a (_ : Unit) => a = res.1) (fun _ t => (aR D cy ad0 ba0 res.2) t.heap) ba0) args s 8861 53166 ba0) (F0 m 320 ls []) := by
  have hx := X.1
  have hb := X.2.1
  have hown := X.2.2.2.2.1
  intro z0 v2 v3 v4 H locs ls ce sl hb1_ hb2_ hW0 hS hl hf
  unfold hL_hands_320 at hf
  refine lv_iconst (v := (0 : Int32)) hx hb dL_hands_320 (by decide) ?_
  exact bL_hands_321 (x1 := x1) X hl0 z0 v2 v3 v4 (0 : Int32) _ _ _ _ _ (by omega) (by omega) hW0 hS (lv_sub hl [0, 1, 2, 3, 4] rfl) hf
set_option maxRecDepth 100000 in
set_option maxHeartbeats 4000000 in
theorem bL_hands_300 {p : Program} {l : Launch} {e : Env} {s : State} {m : MethodId} {args : Array Value} {below : List Frame} {meth : Method} {c : Code} {D : va_G} {cy : Nat → ClassId} {ad0 : Nat → Nat} {ba0 : Nat → Prop} {x1 : Int32} {res : (Int32 × aS)} (X : teC wsL_hands RL cL_hands 26 (some .boolean) D cy ba0 p s m args meth c) (hl0 : l.stackTraces = false) : ∀ (z0 : aS) (v2 : Int32) (v3 : Int32) (v4 : Int32) (H : Heap) (locs : List Loc) (ls : Array Slot) (ce sl : Nat), ce + (5753) ≤ 8861 → sl + (34518) ≤ 53166 → aR D cy ad0 ba0 z0 H → va_S ba0 s.heap H locs → lv_has ls 26 [(0, .ref (ad0 360)), (1, .int x1), (2, .int v2), (3, .int v3), (4, .int v4)] → hL_hands_300 x1 z0 v2 v3 v4 = some res → W p l e (headSpec wsL_hands rmL_hands).room s m args below meth c H locs ce sl (MQ below (va_Qi (fun a (_ : Unit) => a = res.1) (fun _ t => (aR D cy ad0 ba0 res.2) t.heap) ba0) args s 8861 53166 ba0) (F0 m 300 ls []) := by
  have hx := X.1
  have hb := X.2.1
  have hown := X.2.2.2.2.1
  intro z0 v2 v3 v4 H locs ls ce sl hb1_ hb2_ hW0 hS hl hf
  unfold hL_hands_300 at hf
  refine lv_aload_n hx hb dL_hands_300 rfl (lv_at hl 0 rfl) ?_
  obtain ⟨r_62, hq_63, hf⟩ := bd1_some hf
  refine kB (As := [.ref (ad0 360)]) (rest := []) X (fun q h => h) hW0 aX_no hS (zcL_sound l D cy ad0 ba0 hl0 _ hq_63) (va_cwS 1 X.2.2.2.2.2.1 gL_hands_L_sound rfl rfl rfl kdL_sound.2 ⟨(Nat.le_of_ble_eq_true rfl), (Nat.le_of_ble_eq_true rfl)⟩) rfl rfl hl.1 (Nat.le_of_ble_eq_true rfl) ⟨by show _ ≤ 8861; omega, by show _ ≤ 53166; omega⟩ dL_hands_301 (fun H locs hW0 hS hz hk => ?_)
  clear hz hk
  refine lv_if_eq (tgt := 320) hx hb dL_hands_304 (by decide) (fun c_64 => ?_) (fun c_64 => ?_)
  · replace hf := ite_t c_64 hf
    exact bL_hands_320 (x1 := x1) X hl0 z0 v2 v3 v4 _ _ _ _ _ (by omega) (by omega) hW0 hS (lv_sub hl [0, 1, 2, 3, 4] rfl) hf
  · replace hf := ite_f c_64 hf
    refine lv_aload_n hx hb dL_hands_307 rfl (lv_at hl 0 rfl) ?_
    refine lv_iconst (v := (0 : Int32)) hx hb dL_hands_308 (by decide) ?_
    obtain ⟨r_65, z0_10, hq_66, hf⟩ := bd2_some hf
    refine kA (As := [.ref (ad0 360), .int (0 : Int32)]) (rest := []) X (fun q h => h) hW0 hS (tI_tryRestore l D cy ad0 ba0 hl0 hq_66) (vx_cwSW (hh := [(0, 5, 6, 30), (0, 5, 10, 16)]) 2 X.2.2.2.2.2.1 gL_hands_L_tryRestore rfl rfl rfl kdL_tryRestore.2 ⟨(Nat.le_of_ble_eq_true rfl), (Nat.le_of_ble_eq_true rfl)⟩) rfl rfl hl.1 (Nat.le_of_ble_eq_true rfl) ⟨by show _ ≤ 8861; omega, by show _ ≤ 53166; omega⟩ dL_hands_309 (fun H locs hW0 hS hz hk => ?_)
    clear hz hk
    refine lv_iload_n hx hb dL_hands_312 rfl (lv_at hl 3 rfl) ?_
    refine lv_icmp_ne (tgt := 320) hx hb dL_hands_313 (by decide) (fun c_67 => ?_) (fun c_67 => ?_)
    · replace hf := ite_f c_67 hf
      exact bL_hands_320 (x1 := x1) X hl0 z0_10 v2 v3 v4 _ _ _ _ _ (by omega) (by omega) hW0 hS (lv_sub hl [0, 1, 2, 3, 4] rfl) hf
    · replace hf := ite_t c_67 hf
      refine lv_iconst (v := (1 : Int32)) hx hb dL_hands_316 (by decide) ?_
      refine lv_goto (tgt := 321) hx hb dL_hands_317 (by decide) ?_
      exact bL_hands_321 (x1 := x1) X hl0 z0_10 v2 v3 v4 (1 : Int32) _ _ _ _ _ (by omega) (by omega) hW0 hS (lv_sub hl [0, 1, 2, 3, 4] rfl) hf
set_option maxRecDepth 100000 in
set_option maxHeartbeats 4000000 in
theorem bL_hands_284 {p : Program} {l : Launch} {e : Env} {s : State} {m : MethodId} {args : Array Value} {below : List Frame} {meth : Method} {c : Code} {D : va_G} {cy : Nat → ClassId} {ad0 : Nat → Nat} {ba0 : Nat → Prop} {x1 : Int32} {res : (Int32 × aS)} (X : teC wsL_hands RL cL_hands 26 (some .boolean) D cy ba0 p s m args meth c) (hl0 : l.stackTraces = false) : ∀ (z0 : aS) (v2 : Int32) (v3 : Int32) (v4 : Int32) (H : Heap) (locs : List Loc) (ls : Array Slot) (ce sl : Nat), ce + (5755) ≤ 8861 → sl + (34530) ≤ 53166 → aR D cy ad0 ba0 z0 H → va_S ba0 s.heap H locs → lv_has ls 26 [(0, .ref (ad0 360)), (1, .int x1), (2, .int v2), (3, .int v3), (4, .int v4)] → hL_hands_284 x1 z0 v2 v3 v4 = some res → W p l e (headSpec wsL_hands rmL_hands).room s m args below meth c H locs ce sl (MQ below (va_Qi (fun a (_ : Unit) => a = res.1) (fun _ t => (aR D cy ad0 ba0 res.2) t.heap) ba0) args s 8861 53166 ba0) (F0 m 284 ls []) := by
  have hx := X.1
  have hb := X.2.1
  have hown := X.2.2.2.2.1
  intro z0 v2 v3 v4 H locs ls ce sl hb1_ hb2_ hW0 hS hl hf
  unfold hL_hands_284 at hf
  refine lv_aload_n hx hb dL_hands_284 rfl (lv_at hl 0 rfl) ?_
  refine lv_iconst (v := (4 : Int32)) hx hb dL_hands_285 (by decide) ?_
  refine kA (As := [.ref (ad0 360), .int (4 : Int32)]) (rest := []) X (fun q h => h) hW0 hS (tI_tryAbout l D cy ad0 ba0 hl0 z0 (4 : Int32)) (vx_cwSW (hh := [(0, 5, 6, 13)]) 2 X.2.2.2.2.2.1 gL_hands_L_tryAbout rfl rfl rfl kdL_tryAbout.2 ⟨(Nat.le_of_ble_eq_true rfl), (Nat.le_of_ble_eq_true rfl)⟩) rfl rfl hl.1 (Nat.le_of_ble_eq_true rfl) ⟨by show _ ≤ 8861; omega, by show _ ≤ 53166; omega⟩ dL_hands_286 (fun H locs hW0 hS hz hk => ?_)
  clear hz hk
  refine lv_if_gt (tgt := 300) hx hb dL_hands_289 (by decide) (fun c_42 => ?_) (fun c_42 => ?_)
  · replace hf := ite_t c_42 hf
    exact bL_hands_300 (x1 := x1) X hl0 z0 v2 v3 v4 _ _ _ _ _ (by omega) (by omega) hW0 hS (lv_sub hl [0, 1, 2, 3, 4] rfl) hf
  · replace hf := ite_f c_42 hf
    refine lv_aload_n hx hb dL_hands_292 rfl (lv_at hl 0 rfl) ?_
    refine lv_iconst (v := (1 : Int32)) hx hb dL_hands_293 (by decide) ?_
    obtain ⟨r_43, z0_8, hq_44, hf⟩ := bd2_some hf
    refine kA (As := [.ref (ad0 360), .int (1 : Int32)]) (rest := []) X (fun q h => h) hW0 hS (tI_trySettle l D cy ad0 ba0 hl0 hq_44) (vx_cwSW (hh := [(0, 5, 6, 13)]) 2 X.2.2.2.2.2.1 gL_hands_L_trySettle rfl rfl rfl kdL_trySettle.2 ⟨(Nat.le_of_ble_eq_true rfl), (Nat.le_of_ble_eq_true rfl)⟩) rfl rfl hl.1 (Nat.le_of_ble_eq_true rfl) ⟨by show _ ≤ 8861; omega, by show _ ≤ 53166; omega⟩ dL_hands_294 (fun H locs hW0 hS hz hk => ?_)
    clear hz hk
    refine lv_if_ne (tgt := 320) hx hb dL_hands_297 (by decide) (fun c_45 => ?_) (fun c_45 => ?_)
    · replace hf := ite_f c_45 hf
      exact bL_hands_320 (x1 := x1) X hl0 z0_8 v2 v3 v4 _ _ _ _ _ (by omega) (by omega) hW0 hS (lv_sub hl [0, 1, 2, 3, 4] rfl) hf
    · replace hf := ite_t c_45 hf
      exact bL_hands_300 (x1 := x1) X hl0 z0_8 v2 v3 v4 _ _ _ _ _ (by omega) (by omega) hW0 hS (lv_sub hl [0, 1, 2, 3, 4] rfl) hf
set_option maxRecDepth 100000 in
set_option maxHeartbeats 4000000 in
theorem bL_hands_231 {p : Program} {l : Launch} {e : Env} {s : State} {m : MethodId} {args : Array Value} {below : List Frame} {meth : Method} {c : Code} {D : va_G} {cy : Nat → ClassId} {ad0 : Nat → Nat} {ba0 : Nat → Prop} {x1 : Int32} {res : (Int32 × aS)} (X : teC wsL_hands RL cL_hands 26 (some .boolean) D cy ba0 p s m args meth c) (hl0 : l.stackTraces = false) : ∀ (z0 : aS) (v2 : Int32) (v3 : Int32) (v4 : Int32) (y0 : Int32) (H : Heap) (locs : List Loc) (ls : Array Slot) (ce sl : Nat), ce + (5757) ≤ 8861 → sl + (34542) ≤ 53166 → aR D cy ad0 ba0 z0 H → va_S ba0 s.heap H locs → lv_has ls 26 [(0, .ref (ad0 360)), (1, .int x1), (2, .int v2), (3, .int v3), (4, .int v4)] → hL_hands_231 x1 z0 v2 v3 v4 y0 = some res → W p l e (headSpec wsL_hands rmL_hands).room s m args below meth c H locs ce sl (MQ below (va_Qi (fun a (_ : Unit) => a = res.1) (fun _ t => (aR D cy ad0 ba0 res.2) t.heap) ba0) args s 8861 53166 ba0) (F0 m 231 ls [.int y0]) := by
  have hx := X.1
  have hb := X.2.1
  have hown := X.2.2.2.2.1
  intro z0 v2 v3 v4 y0 H locs ls ce sl hb1_ hb2_ hW0 hS hl hf
  unfold hL_hands_231 at hf
  refine lv_istore (lv' := [(6, .int y0), (0, .ref (ad0 360)), (1, .int x1), (2, .int v2), (3, .int v3), (4, .int v4)]) hx hb dL_hands_231 hl (by decide) rfl (fun ls hl => ?_)
  refine lv_iconst (v := (1 : Int32)) hx hb dL_hands_233 (by decide) ?_
  refine lv_iload_n hx hb dL_hands_234 rfl (lv_at hl 2 rfl) ?_
  refine lv_bipush (v := (16 : Int32)) hx hb dL_hands_235 (by decide) ?_
  refine lv_idiv hx hb dL_hands_237 (by decide) ?_
  refine lv_bipush (v := (20 : Int32)) hx hb dL_hands_238 (by decide) ?_
  refine lv_irem hx hb dL_hands_240 (by decide) ?_
  refine lv_iadd hx hb dL_hands_241 ?_
  refine lv_istore (lv' := [(8, .int ((1 : Int32) + ((x1 / (16 : Int32)) - (x1 / (16 : Int32)) / (20 : Int32) * (20 : Int32)))), (6, .int y0), (0, .ref (ad0 360)), (1, .int x1), (2, .int v2), (3, .int v3), (4, .int v4)]) hx hb dL_hands_242 hl (by decide) rfl (fun ls hl => ?_)
  refine lv_aload_n hx hb dL_hands_244 rfl (lv_at hl 2 rfl) ?_
  refine lv_iload hx hb dL_hands_245 (lv_at hl 0 rfl) ?_
  obtain ⟨r_35, z0_7, hq_36, hf⟩ := bd2_some hf
  refine kA (As := [.ref (ad0 360), .int ((1 : Int32) + ((x1 / (16 : Int32)) - (x1 / (16 : Int32)) / (20 : Int32) * (20 : Int32)))]) (rest := []) X (fun q h => h) hW0 hS (tI_trySettle l D cy ad0 ba0 hl0 hq_36) (vx_cwSW (hh := [(0, 5, 6, 13)]) 2 X.2.2.2.2.2.1 gL_hands_L_trySettle rfl rfl rfl kdL_trySettle.2 ⟨(Nat.le_of_ble_eq_true rfl), (Nat.le_of_ble_eq_true rfl)⟩) rfl rfl hl.1 (Nat.le_of_ble_eq_true rfl) ⟨by show _ ≤ 8861; omega, by show _ ≤ 53166; omega⟩ dL_hands_247 (fun H locs hW0 hS hz hk => ?_)
  clear hz hk
  refine lv_istore (lv' := [(9, .int r_35), (8, .int ((1 : Int32) + ((x1 / (16 : Int32)) - (x1 / (16 : Int32)) / (20 : Int32) * (20 : Int32)))), (6, .int y0), (0, .ref (ad0 360)), (1, .int x1), (2, .int v2), (3, .int v3), (4, .int v4)]) hx hb dL_hands_250 hl (by decide) rfl (fun ls hl => ?_)
  refine lv_iload hx hb dL_hands_252 (lv_at hl 2 rfl) ?_
  refine lv_if_eq (tgt := 320) hx hb dL_hands_254 (by decide) (fun c_37 => ?_) (fun c_37 => ?_)
  · replace hf := ite_t c_37 hf
    exact bL_hands_320 (x1 := x1) X hl0 z0_7 v2 v3 v4 _ _ _ _ _ (by omega) (by omega) hW0 hS (lv_sub hl [3, 4, 5, 6, 7] rfl) hf
  · replace hf := ite_f c_37 hf
    refine lv_iload hx hb dL_hands_257 (lv_at hl 0 rfl) ?_
    refine lv_if_lt (tgt := 320) hx hb dL_hands_259 (by decide) (fun c_38 => ?_) (fun c_38 => ?_)
    · replace hf := ite_t c_38 hf
      exact bL_hands_320 (x1 := x1) X hl0 z0_7 v2 v3 v4 _ _ _ _ _ (by omega) (by omega) hW0 hS (lv_sub hl [3, 4, 5, 6, 7] rfl) hf
    · replace hf := ite_f c_38 hf
      refine lv_iload hx hb dL_hands_262 (lv_at hl 0 rfl) ?_
      refine lv_iload hx hb dL_hands_264 (lv_at hl 1 rfl) ?_
      refine lv_icmp_gt (tgt := 320) hx hb dL_hands_266 (by decide) (fun c_39 => ?_) (fun c_39 => ?_)
      · replace hf := ite_t c_39 hf
        exact bL_hands_320 (x1 := x1) X hl0 z0_7 v2 v3 v4 _ _ _ _ _ (by omega) (by omega) hW0 hS (lv_sub hl [3, 4, 5, 6, 7] rfl) hf
      · replace hf := ite_f c_39 hf
        refine lv_iload hx hb dL_hands_269 (lv_at hl 0 rfl) ?_
        refine lv_iload hx hb dL_hands_271 (lv_at hl 1 rfl) ?_
        refine lv_icmp_eq (tgt := 284) hx hb dL_hands_273 (by decide) (fun c_40 => ?_) (fun c_40 => ?_)
        · replace hf := ite_t c_40 hf
          exact bL_hands_284 (x1 := x1) X hl0 z0_7 v2 v3 v4 _ _ _ _ _ (by omega) (by omega) hW0 hS (lv_sub hl [3, 4, 5, 6, 7] rfl) hf
        · replace hf := ite_f c_40 hf
          refine lv_aload_n hx hb dL_hands_276 rfl (lv_at hl 3 rfl) ?_
          refine lv_iconst (v := (4 : Int32)) hx hb dL_hands_277 (by decide) ?_
          refine kA (As := [.ref (ad0 360), .int (4 : Int32)]) (rest := []) X (fun q h => h) hW0 hS (tI_tryAbout l D cy ad0 ba0 hl0 z0_7 (4 : Int32)) (vx_cwSW (hh := [(0, 5, 6, 13)]) 2 X.2.2.2.2.2.1 gL_hands_L_tryAbout rfl rfl rfl kdL_tryAbout.2 ⟨(Nat.le_of_ble_eq_true rfl), (Nat.le_of_ble_eq_true rfl)⟩) rfl rfl hl.1 (Nat.le_of_ble_eq_true rfl) ⟨by show _ ≤ 8861; omega, by show _ ≤ 53166; omega⟩ dL_hands_278 (fun H locs hW0 hS hz hk => ?_)
          clear hz hk
          refine lv_if_ne (tgt := 320) hx hb dL_hands_281 (by decide) (fun c_41 => ?_) (fun c_41 => ?_)
          · replace hf := ite_f c_41 hf
            exact bL_hands_320 (x1 := x1) X hl0 z0_7 v2 v3 v4 _ _ _ _ _ (by omega) (by omega) hW0 hS (lv_sub hl [3, 4, 5, 6, 7] rfl) hf
          · replace hf := ite_t c_41 hf
            exact bL_hands_284 (x1 := x1) X hl0 z0_7 v2 v3 v4 _ _ _ _ _ (by omega) (by omega) hW0 hS (lv_sub hl [3, 4, 5, 6, 7] rfl) hf
set_option maxRecDepth 100000 in
set_option maxHeartbeats 4000000 in
theorem bL_hands_205 {p : Program} {l : Launch} {e : Env} {s : State} {m : MethodId} {args : Array Value} {below : List Frame} {meth : Method} {c : Code} {D : va_G} {cy : Nat → ClassId} {ad0 : Nat → Nat} {ba0 : Nat → Prop} {x1 : Int32} {res : (Int32 × aS)} (X : teC wsL_hands RL cL_hands 26 (some .boolean) D cy ba0 p s m args meth c) (hl0 : l.stackTraces = false) : ∀ (z0 : aS) (v2 : Int32) (v3 : Int32) (v4 : Int32) (v6 : Int32) (H : Heap) (locs : List Loc) (ls : Array Slot) (ce sl : Nat), ce + (5758) ≤ 8861 → sl + (34548) ≤ 53166 → aR D cy ad0 ba0 z0 H → va_S ba0 s.heap H locs → lv_has ls 26 [(0, .ref (ad0 360)), (1, .int x1), (2, .int v2), (3, .int v3), (4, .int v4), (6, .int v6)] → hL_hands_205 x1 z0 v2 v3 v4 v6 = some res → W p l e (headSpec wsL_hands rmL_hands).room s m args below meth c H locs ce sl (MQ below (va_Qi (fun a (_ : Unit) => a = res.1) (fun _ t => (aR D cy ad0 ba0 res.2) t.heap) ba0) args s 8861 53166 ba0) (F0 m 205 ls []) := by
  have hx := X.1
  have hb := X.2.1
  have hown := X.2.2.2.2.1
  intro z0 v2 v3 v4 v6 H locs ls ce sl hb1_ hb2_ hW0 hS hl hf
  unfold hL_hands_205 at hf
  refine lv_iload hx hb dL_hands_205 (lv_at hl 5 rfl) ?_
  refine lv_if_eq (tgt := 230) hx hb dL_hands_207 (by decide) (fun c_23 => ?_) (fun c_23 => ?_)
  · replace hf := ite_t c_23 hf
    refine lv_iconst (v := (0 : Int32)) hx hb dL_hands_230 (by decide) ?_
    exact bL_hands_231 (x1 := x1) X hl0 z0 v2 v3 v4 (0 : Int32) _ _ _ _ _ (by omega) (by omega) hW0 hS (lv_sub hl [0, 1, 2, 3, 4] rfl) hf
  · replace hf := ite_f c_23 hf
    refine lv_aload_n hx hb dL_hands_210 rfl (lv_at hl 0 rfl) ?_
    obtain ⟨r_24, z0_5, hq_25, hf⟩ := bd2_some hf
    refine kD (As := []) (rest := []) X (fun q h => h) hW0 hS (tD_match l D cy ad0 ba0 hq_25) (cwV 0 X.2.2.2.2.2.1 gL_hands_X5_match rfl rfl rfl kdX5_match ⟨(Nat.le_of_ble_eq_true rfl), (Nat.le_of_ble_eq_true rfl)⟩) rfl rfl hl.1 (Nat.le_of_ble_eq_true rfl) ⟨by show _ ≤ 8861; omega, by show _ ≤ 53166; omega⟩ dL_hands_211 (fun H locs hW0 hS hz hk => ?_)
    clear hz hk
    refine lv_if_ne (tgt := 230) hx hb dL_hands_214 (by decide) (fun c_26 => ?_) (fun c_26 => ?_)
    · replace hf := ite_f c_26 hf
      refine lv_iconst (v := (0 : Int32)) hx hb dL_hands_230 (by decide) ?_
      exact bL_hands_231 (x1 := x1) X hl0 z0_5 v2 v3 v4 (0 : Int32) _ _ _ _ _ (by omega) (by omega) hW0 hS (lv_sub hl [0, 1, 2, 3, 4] rfl) hf
    · replace hf := ite_t c_26 hf
      refine lv_aload_n hx hb dL_hands_217 rfl (lv_at hl 0 rfl) ?_
      refine lv_iconst (v := (0 : Int32)) hx hb dL_hands_218 (by decide) ?_
      obtain ⟨r_27, z0_6, hq_28, hf⟩ := bd2_some hf
      refine kA (As := [.ref (ad0 360), .int (0 : Int32)]) (rest := []) X (fun q h => h) hW0 hS (tI_tryRestore l D cy ad0 ba0 hl0 hq_28) (vx_cwSW (hh := [(0, 5, 6, 30), (0, 5, 10, 16)]) 2 X.2.2.2.2.2.1 gL_hands_L_tryRestore rfl rfl rfl kdL_tryRestore.2 ⟨(Nat.le_of_ble_eq_true rfl), (Nat.le_of_ble_eq_true rfl)⟩) rfl rfl hl.1 (Nat.le_of_ble_eq_true rfl) ⟨by show _ ≤ 8861; omega, by show _ ≤ 53166; omega⟩ dL_hands_219 (fun H locs hW0 hS hz hk => ?_)
      clear hz hk
      refine lv_iload_n hx hb dL_hands_222 rfl (lv_at hl 3 rfl) ?_
      refine lv_icmp_ne (tgt := 230) hx hb dL_hands_223 (by decide) (fun c_29 => ?_) (fun c_29 => ?_)
      · replace hf := ite_f c_29 hf
        refine lv_iconst (v := (0 : Int32)) hx hb dL_hands_230 (by decide) ?_
        exact bL_hands_231 (x1 := x1) X hl0 z0_6 v2 v3 v4 (0 : Int32) _ _ _ _ _ (by omega) (by omega) hW0 hS (lv_sub hl [0, 1, 2, 3, 4] rfl) hf
      · replace hf := ite_t c_29 hf
        refine lv_iconst (v := (1 : Int32)) hx hb dL_hands_226 (by decide) ?_
        refine lv_goto (tgt := 231) hx hb dL_hands_227 (by decide) ?_
        exact bL_hands_231 (x1 := x1) X hl0 z0_6 v2 v3 v4 (1 : Int32) _ _ _ _ _ (by omega) (by omega) hW0 hS (lv_sub hl [0, 1, 2, 3, 4] rfl) hf
set_option maxRecDepth 100000 in
set_option maxHeartbeats 4000000 in
theorem bL_hands_186 {p : Program} {l : Launch} {e : Env} {s : State} {m : MethodId} {args : Array Value} {below : List Frame} {meth : Method} {c : Code} {D : va_G} {cy : Nat → ClassId} {ad0 : Nat → Nat} {ba0 : Nat → Prop} {x1 : Int32} {res : (Int32 × aS)} (X : teC wsL_hands RL cL_hands 26 (some .boolean) D cy ba0 p s m args meth c) (hl0 : l.stackTraces = false) {n120 : Nat} {q120 : aS → Int32 → Int32 → Int32 → Int32 → Int32 → Option (Int32 × aS)} (hq120 : ∀ (z0 : aS) (v2 : Int32) (v3 : Int32) (v4 : Int32) (v6 : Int32) (v8 : Int32) (H : Heap) (locs : List Loc) (ls : Array Slot) (ce sl : Nat), ce + (30 * n120 + 5758) ≤ 8861 → sl + (180 * n120 + 34548) ≤ 53166 → aR D cy ad0 ba0 z0 H → va_S ba0 s.heap H locs → lv_has ls 26 [(0, .ref (ad0 360)), (1, .int x1), (2, .int v2), (3, .int v3), (4, .int v4), (6, .int v6), (8, .int v8)] → q120 z0 v2 v3 v4 v6 v8 = some res → W p l e (headSpec wsL_hands rmL_hands).room s m args below meth c H locs ce sl (MQ below (va_Qi (fun a (_ : Unit) => a = res.1) (fun _ t => (aR D cy ad0 ba0 res.2) t.heap) ba0) args s 8861 53166 ba0) (F0 m 120 ls [])) {n134 : Nat} {q134 : aS → Int32 → Int32 → Int32 → Int32 → Int32 → Int32 → Option (Int32 × aS)} (hq134 : ∀ (z0 : aS) (v2 : Int32) (v3 : Int32) (v4 : Int32) (v6 : Int32) (v8 : Int32) (v9 : Int32) (H : Heap) (locs : List Loc) (ls : Array Slot) (ce sl : Nat), ce + (30 * n120 + 3 * n134 + 5758) ≤ 8861 → sl + (180 * n120 + 18 * n134 + 34548) ≤ 53166 → aR D cy ad0 ba0 z0 H → va_S ba0 s.heap H locs → lv_has ls 26 [(0, .ref (ad0 360)), (1, .int x1), (2, .int v2), (3, .int v3), (4, .int v4), (6, .int v6), (8, .int v8), (9, .int v9)] → q134 z0 v2 v3 v4 v6 v8 v9 = some res → W p l e (headSpec wsL_hands rmL_hands).room s m args below meth c H locs ce sl (MQ below (va_Qi (fun a (_ : Unit) => a = res.1) (fun _ t => (aR D cy ad0 ba0 res.2) t.heap) ba0) args s 8861 53166 ba0) (F0 m 134 ls [])) : ∀ (z0 : aS) (v2 : Int32) (v3 : Int32) (v4 : Int32) (v8 : Int32) (v9 : Int32) (H : Heap) (locs : List Loc) (ls : Array Slot) (ce sl : Nat), ce + (30 * n120 + 3 * n134 + 5758) ≤ 8861 → sl + (180 * n120 + 18 * n134 + 34548) ≤ 53166 → aR D cy ad0 ba0 z0 H → va_S ba0 s.heap H locs → lv_has ls 26 [(0, .ref (ad0 360)), (1, .int x1), (2, .int v2), (3, .int v3), (4, .int v4), (8, .int v8), (9, .int v9)] → hL_hands_186 x1 q120 q134 z0 v2 v3 v4 v8 v9 = some res → W p l e (headSpec wsL_hands rmL_hands).room s m args below meth c H locs ce sl (MQ below (va_Qi (fun a (_ : Unit) => a = res.1) (fun _ t => (aR D cy ad0 ba0 res.2) t.heap) ba0) args s 8861 53166 ba0) (F0 m 186 ls []) := by
  have hx := X.1
  have hb := X.2.1
  have hown := X.2.2.2.2.1
  intro z0 v2 v3 v4 v8 v9 H locs ls ce sl hb1_ hb2_ hW0 hS hl hf
  unfold hL_hands_186 at hf
  refine lv_iconst (v := (1 : Int32)) hx hb dL_hands_186 (by decide) ?_
  refine lv_goto (tgt := 191) hx hb dL_hands_187 (by decide) ?_
  refine lv_istore (lv' := [(6, .int (1 : Int32)), (0, .ref (ad0 360)), (1, .int x1), (2, .int v2), (3, .int v3), (4, .int v4), (8, .int v8), (9, .int v9)]) hx hb dL_hands_191 hl (by decide) rfl (fun ls hl => ?_)
  refine lv_iinc (v := (v9 + (1 : Int32))) (lv' := [(9, .int (v9 + (1 : Int32))), (6, .int (1 : Int32)), (0, .ref (ad0 360)), (1, .int x1), (2, .int v2), (3, .int v3), (4, .int v4), (8, .int v8)]) hx hb dL_hands_193 hl (k := 7) rfl rfl (by decide) rfl (fun ls hl => ?_)
  refine lv_goto (tgt := 134) hx hb dL_hands_196 (by decide) ?_
  exact hq134 z0 v2 v3 v4 (1 : Int32) v8 (v9 + (1 : Int32)) _ _ _ _ _ (by omega) (by omega) hW0 hS (lv_sub hl [2, 3, 4, 5, 6, 1, 7, 0] rfl) hf
set_option maxRecDepth 100000 in
set_option maxHeartbeats 4000000 in
theorem bL_hands_134 {p : Program} {l : Launch} {e : Env} {s : State} {m : MethodId} {args : Array Value} {below : List Frame} {meth : Method} {c : Code} {D : va_G} {cy : Nat → ClassId} {ad0 : Nat → Nat} {ba0 : Nat → Prop} {x1 : Int32} {res : (Int32 × aS)} (X : teC wsL_hands RL cL_hands 26 (some .boolean) D cy ba0 p s m args meth c) (hl0 : l.stackTraces = false) {n120 : Nat} {q120 : aS → Int32 → Int32 → Int32 → Int32 → Int32 → Option (Int32 × aS)} (hq120 : ∀ (z0 : aS) (v2 : Int32) (v3 : Int32) (v4 : Int32) (v6 : Int32) (v8 : Int32) (H : Heap) (locs : List Loc) (ls : Array Slot) (ce sl : Nat), ce + (30 * n120 + 5758) ≤ 8861 → sl + (180 * n120 + 34548) ≤ 53166 → aR D cy ad0 ba0 z0 H → va_S ba0 s.heap H locs → lv_has ls 26 [(0, .ref (ad0 360)), (1, .int x1), (2, .int v2), (3, .int v3), (4, .int v4), (6, .int v6), (8, .int v8)] → q120 z0 v2 v3 v4 v6 v8 = some res → W p l e (headSpec wsL_hands rmL_hands).room s m args below meth c H locs ce sl (MQ below (va_Qi (fun a (_ : Unit) => a = res.1) (fun _ t => (aR D cy ad0 ba0 res.2) t.heap) ba0) args s 8861 53166 ba0) (F0 m 120 ls [])) : ∀ (n : Nat), ∀ (z0 : aS) (v2 : Int32) (v3 : Int32) (v4 : Int32) (v6 : Int32) (v8 : Int32) (v9 : Int32) (H : Heap) (locs : List Loc) (ls : Array Slot) (ce sl : Nat), ce + (30 * n120 + 3 * n + 5758) ≤ 8861 → sl + (180 * n120 + 18 * n + 34548) ≤ 53166 → aR D cy ad0 ba0 z0 H → va_S ba0 s.heap H locs → lv_has ls 26 [(0, .ref (ad0 360)), (1, .int x1), (2, .int v2), (3, .int v3), (4, .int v4), (6, .int v6), (8, .int v8), (9, .int v9)] → hL_hands_134 x1 q120 n z0 v2 v3 v4 v6 v8 v9 = some res → W p l e (headSpec wsL_hands rmL_hands).room s m args below meth c H locs ce sl (MQ below (va_Qi (fun a (_ : Unit) => a = res.1) (fun _ t => (aR D cy ad0 ba0 res.2) t.heap) ba0) args s 8861 53166 ba0) (F0 m 134 ls []) := by
  have hx := X.1
  have hb := X.2.1
  have hown := X.2.2.2.2.1
  intro n
  induction n with
  | zero =>
    intro z0 v2 v3 v4 v6 v8 v9 H locs ls ce sl hb1_ hb2_ hW0 hS hl hf
    exact nomatch hf
  | succ n ih =>
    intro z0 v2 v3 v4 v6 v8 v9 H locs ls ce sl hb1_ hb2_ hW0 hS hl hf
    unfold hL_hands_134 at hf
    refine lv_iload hx hb dL_hands_134 (lv_at hl 7 rfl) ?_
    refine lv_iload hx hb dL_hands_136 (lv_at hl 6 rfl) ?_
    refine lv_icmp_ge (tgt := 199) hx hb dL_hands_138 (by decide) (fun c_30 => ?_) (fun c_30 => ?_)
    · replace hf := ite_t c_30 hf
      refine lv_iinc (v := (v8 + (1 : Int32))) (lv' := [(8, .int (v8 + (1 : Int32))), (0, .ref (ad0 360)), (1, .int x1), (2, .int v2), (3, .int v3), (4, .int v4), (6, .int v6), (9, .int v9)]) hx hb dL_hands_199 hl (k := 6) rfl rfl (by decide) rfl (fun ls hl => ?_)
      refine lv_goto (tgt := 120) hx hb dL_hands_202 (by decide) ?_
      exact hq120 z0 v2 v3 v4 v6 (v8 + (1 : Int32)) _ _ _ _ _ (by omega) (by omega) hW0 hS (lv_sub hl [1, 2, 3, 4, 5, 6, 0] rfl) hf
    · replace hf := ite_f c_30 hf
      refine lv_iload hx hb dL_hands_141 (lv_at hl 5 rfl) ?_
      refine lv_if_eq (tgt := 199) hx hb dL_hands_143 (by decide) (fun c_31 => ?_) (fun c_31 => ?_)
      · replace hf := ite_t c_31 hf
        refine lv_iinc (v := (v8 + (1 : Int32))) (lv' := [(8, .int (v8 + (1 : Int32))), (0, .ref (ad0 360)), (1, .int x1), (2, .int v2), (3, .int v3), (4, .int v4), (6, .int v6), (9, .int v9)]) hx hb dL_hands_199 hl (k := 6) rfl rfl (by decide) rfl (fun ls hl => ?_)
        refine lv_goto (tgt := 120) hx hb dL_hands_202 (by decide) ?_
        exact hq120 z0 v2 v3 v4 v6 (v8 + (1 : Int32)) _ _ _ _ _ (by omega) (by omega) hW0 hS (lv_sub hl [1, 2, 3, 4, 5, 6, 0] rfl) hf
      · replace hf := ite_f c_31 hf
        refine lv_aload_n hx hb dL_hands_146 rfl (lv_at hl 0 rfl) ?_
        refine lv_iload hx hb dL_hands_147 (lv_at hl 6 rfl) ?_
        refine lv_bipush (v := (8 : Int32)) hx hb dL_hands_149 (by decide) ?_
        refine kA (As := [.ref (ad0 360), .int v8, .int (8 : Int32)]) (rest := []) X (fun q h => h) hW0 hS (tI_tryMember l D cy ad0 ba0 hl0 z0 v8 (8 : Int32)) (vx_cwSW (hh := [(0, 6, 7, 30), (0, 6, 11, 13)]) 3 X.2.2.2.2.2.1 gL_hands_L_tryMember rfl rfl rfl kdL_tryMember.2 ⟨(Nat.le_of_ble_eq_true rfl), (Nat.le_of_ble_eq_true rfl)⟩) rfl rfl hl.1 (Nat.le_of_ble_eq_true rfl) ⟨by show _ ≤ 8861; omega, by show _ ≤ 53166; omega⟩ dL_hands_151 (fun H locs hW0 hS hz hk => ?_)
        clear hz hk
        refine lv_sipush (v := (-9999 : Int32)) hx hb dL_hands_154 (by decide) ?_
        refine lv_icmp_ne (tgt := 186) hx hb dL_hands_157 (by decide) (fun c_32 => ?_) (fun c_32 => ?_)
        · replace hf := ite_f c_32 hf
          exact bL_hands_186 (x1 := x1) X hl0 hq120 ih z0 v2 v3 v4 v8 v9 _ _ _ _ _ (by omega) (by omega) hW0 hS (lv_sub hl [0, 1, 2, 3, 4, 6, 7] rfl) hf
        · replace hf := ite_t c_32 hf
          refine lv_aload_n hx hb dL_hands_160 rfl (lv_at hl 0 rfl) ?_
          refine lv_iload hx hb dL_hands_161 (lv_at hl 7 rfl) ?_
          refine lv_bipush (v := (8 : Int32)) hx hb dL_hands_163 (by decide) ?_
          refine kA (As := [.ref (ad0 360), .int v9, .int (8 : Int32)]) (rest := []) X (fun q h => h) hW0 hS (tI_tryMember l D cy ad0 ba0 hl0 z0 v9 (8 : Int32)) (vx_cwSW (hh := [(0, 6, 7, 30), (0, 6, 11, 13)]) 3 X.2.2.2.2.2.1 gL_hands_L_tryMember rfl rfl rfl kdL_tryMember.2 ⟨(Nat.le_of_ble_eq_true rfl), (Nat.le_of_ble_eq_true rfl)⟩) rfl rfl hl.1 (Nat.le_of_ble_eq_true rfl) ⟨by show _ ≤ 8861; omega, by show _ ≤ 53166; omega⟩ dL_hands_165 (fun H locs hW0 hS hz hk => ?_)
          clear hz hk
          refine lv_sipush (v := (-9999 : Int32)) hx hb dL_hands_168 (by decide) ?_
          refine lv_icmp_ne (tgt := 186) hx hb dL_hands_171 (by decide) (fun c_33 => ?_) (fun c_33 => ?_)
          · replace hf := ite_f c_33 hf
            exact bL_hands_186 (x1 := x1) X hl0 hq120 ih z0 v2 v3 v4 v8 v9 _ _ _ _ _ (by omega) (by omega) hW0 hS (lv_sub hl [0, 1, 2, 3, 4, 6, 7] rfl) hf
          · replace hf := ite_t c_33 hf
            refine lv_aload_n hx hb dL_hands_174 rfl (lv_at hl 0 rfl) ?_
            refine lv_iload hx hb dL_hands_175 (lv_at hl 6 rfl) ?_
            refine lv_iload hx hb dL_hands_177 (lv_at hl 7 rfl) ?_
            refine lv_iconst (v := (2 : Int32)) hx hb dL_hands_179 (by decide) ?_
            refine kA (As := [.ref (ad0 360), .int v8, .int v9, .int (2 : Int32)]) (rest := []) X (fun q h => h) hW0 hS (tI_tryBoth l D cy ad0 ba0 hl0 z0 v8 v9 (2 : Int32)) (vx_cwSW (hh := [(0, 7, 8, 30), (0, 7, 13, 13)]) 4 X.2.2.2.2.2.1 gL_hands_L_tryBoth rfl rfl rfl kdL_tryBoth.2 ⟨(Nat.le_of_ble_eq_true rfl), (Nat.le_of_ble_eq_true rfl)⟩) rfl rfl hl.1 (Nat.le_of_ble_eq_true rfl) ⟨by show _ ≤ 8861; omega, by show _ ≤ 53166; omega⟩ dL_hands_180 (fun H locs hW0 hS hz hk => ?_)
            clear hz hk
            refine lv_if_ne (tgt := 190) hx hb dL_hands_183 (by decide) (fun c_34 => ?_) (fun c_34 => ?_)
            · replace hf := ite_f c_34 hf
              refine lv_iconst (v := (0 : Int32)) hx hb dL_hands_190 (by decide) ?_
              refine lv_istore (lv' := [(6, .int (0 : Int32)), (0, .ref (ad0 360)), (1, .int x1), (2, .int v2), (3, .int v3), (4, .int v4), (8, .int v8), (9, .int v9)]) hx hb dL_hands_191 hl (by decide) rfl (fun ls hl => ?_)
              refine lv_iinc (v := (v9 + (1 : Int32))) (lv' := [(9, .int (v9 + (1 : Int32))), (6, .int (0 : Int32)), (0, .ref (ad0 360)), (1, .int x1), (2, .int v2), (3, .int v3), (4, .int v4), (8, .int v8)]) hx hb dL_hands_193 hl (k := 7) rfl rfl (by decide) rfl (fun ls hl => ?_)
              refine lv_goto (tgt := 134) hx hb dL_hands_196 (by decide) ?_
              exact ih z0 v2 v3 v4 (0 : Int32) v8 (v9 + (1 : Int32)) _ _ _ _ _ (by omega) (by omega) hW0 hS (lv_sub hl [2, 3, 4, 5, 6, 1, 7, 0] rfl) hf
            · replace hf := ite_t c_34 hf
              exact bL_hands_186 (x1 := x1) X hl0 hq120 ih z0 v2 v3 v4 v8 v9 _ _ _ _ _ (by omega) (by omega) hW0 hS (lv_sub hl [0, 1, 2, 3, 4, 6, 7] rfl) hf
set_option maxRecDepth 100000 in
set_option maxHeartbeats 4000000 in
theorem bL_hands_120 {p : Program} {l : Launch} {e : Env} {s : State} {m : MethodId} {args : Array Value} {below : List Frame} {meth : Method} {c : Code} {D : va_G} {cy : Nat → ClassId} {ad0 : Nat → Nat} {ba0 : Nat → Prop} {x1 : Int32} {res : (Int32 × aS)} (X : teC wsL_hands RL cL_hands 26 (some .boolean) D cy ba0 p s m args meth c) (hl0 : l.stackTraces = false) : ∀ (n : Nat), ∀ (z0 : aS) (v2 : Int32) (v3 : Int32) (v4 : Int32) (v6 : Int32) (v8 : Int32) (H : Heap) (locs : List Loc) (ls : Array Slot) (ce sl : Nat), ce + (30 * n + 5758) ≤ 8861 → sl + (180 * n + 34548) ≤ 53166 → aR D cy ad0 ba0 z0 H → va_S ba0 s.heap H locs → lv_has ls 26 [(0, .ref (ad0 360)), (1, .int x1), (2, .int v2), (3, .int v3), (4, .int v4), (6, .int v6), (8, .int v8)] → hL_hands_120 x1 n z0 v2 v3 v4 v6 v8 = some res → W p l e (headSpec wsL_hands rmL_hands).room s m args below meth c H locs ce sl (MQ below (va_Qi (fun a (_ : Unit) => a = res.1) (fun _ t => (aR D cy ad0 ba0 res.2) t.heap) ba0) args s 8861 53166 ba0) (F0 m 120 ls []) := by
  have hx := X.1
  have hb := X.2.1
  have hown := X.2.2.2.2.1
  intro n
  induction n with
  | zero =>
    intro z0 v2 v3 v4 v6 v8 H locs ls ce sl hb1_ hb2_ hW0 hS hl hf
    exact nomatch hf
  | succ n ih =>
    intro z0 v2 v3 v4 v6 v8 H locs ls ce sl hb1_ hb2_ hW0 hS hl hf
    unfold hL_hands_120 at hf
    refine lv_iload hx hb dL_hands_120 (lv_at hl 6 rfl) ?_
    refine lv_iload_n hx hb dL_hands_122 rfl (lv_at hl 2 rfl) ?_
    refine lv_icmp_ge (tgt := 205) hx hb dL_hands_123 (by decide) (fun c_21 => ?_) (fun c_21 => ?_)
    · replace hf := ite_t c_21 hf
      exact bL_hands_205 (x1 := x1) X hl0 z0 v2 v3 v4 v6 _ _ _ _ _ (by omega) (by omega) hW0 hS (lv_sub hl [0, 1, 2, 3, 4, 5] rfl) hf
    · replace hf := ite_f c_21 hf
      refine lv_iload hx hb dL_hands_126 (lv_at hl 5 rfl) ?_
      refine lv_if_eq (tgt := 205) hx hb dL_hands_128 (by decide) (fun c_22 => ?_) (fun c_22 => ?_)
      · replace hf := ite_t c_22 hf
        exact bL_hands_205 (x1 := x1) X hl0 z0 v2 v3 v4 v6 _ _ _ _ _ (by omega) (by omega) hW0 hS (lv_sub hl [0, 1, 2, 3, 4, 5] rfl) hf
      · replace hf := ite_f c_22 hf
        refine lv_iconst (v := (0 : Int32)) hx hb dL_hands_131 (by decide) ?_
        refine lv_istore (lv' := [(9, .int (0 : Int32)), (0, .ref (ad0 360)), (1, .int x1), (2, .int v2), (3, .int v3), (4, .int v4), (6, .int v6), (8, .int v8)]) hx hb dL_hands_132 hl (by decide) rfl (fun ls hl => ?_)
        exact bL_hands_134 (x1 := x1) X hl0 ih 10 z0 v2 v3 v4 v6 v8 (0 : Int32) _ _ _ _ _ (by omega) (by omega) hW0 hS (lv_sub hl [1, 2, 3, 4, 5, 6, 7, 0] rfl) hf
set_option maxRecDepth 100000 in
set_option maxHeartbeats 4000000 in
theorem bL_hands_114 {p : Program} {l : Launch} {e : Env} {s : State} {m : MethodId} {args : Array Value} {below : List Frame} {meth : Method} {c : Code} {D : va_G} {cy : Nat → ClassId} {ad0 : Nat → Nat} {ba0 : Nat → Prop} {x1 : Int32} {res : (Int32 × aS)} (X : teC wsL_hands RL cL_hands 26 (some .boolean) D cy ba0 p s m args meth c) (hl0 : l.stackTraces = false) : ∀ (z0 : aS) (v2 : Int32) (v3 : Int32) (v4 : Int32) (H : Heap) (locs : List Loc) (ls : Array Slot) (ce sl : Nat), ce + (6058) ≤ 8861 → sl + (36348) ≤ 53166 → aR D cy ad0 ba0 z0 H → va_S ba0 s.heap H locs → lv_has ls 26 [(0, .ref (ad0 360)), (1, .int x1), (2, .int v2), (3, .int v3), (4, .int v4)] → hL_hands_114 x1 z0 v2 v3 v4 = some res → W p l e (headSpec wsL_hands rmL_hands).room s m args below meth c H locs ce sl (MQ below (va_Qi (fun a (_ : Unit) => a = res.1) (fun _ t => (aR D cy ad0 ba0 res.2) t.heap) ba0) args s 8861 53166 ba0) (F0 m 114 ls []) := by
  have hx := X.1
  have hb := X.2.1
  have hown := X.2.2.2.2.1
  intro z0 v2 v3 v4 H locs ls ce sl hb1_ hb2_ hW0 hS hl hf
  unfold hL_hands_114 at hf
  refine lv_iconst (v := (0 : Int32)) hx hb dL_hands_114 (by decide) ?_
  refine lv_istore (lv' := [(6, .int (0 : Int32)), (0, .ref (ad0 360)), (1, .int x1), (2, .int v2), (3, .int v3), (4, .int v4)]) hx hb dL_hands_115 hl (by decide) rfl (fun ls hl => ?_)
  refine lv_iconst (v := (0 : Int32)) hx hb dL_hands_117 (by decide) ?_
  refine lv_istore (lv' := [(8, .int (0 : Int32)), (6, .int (0 : Int32)), (0, .ref (ad0 360)), (1, .int x1), (2, .int v2), (3, .int v3), (4, .int v4)]) hx hb dL_hands_118 hl (by decide) rfl (fun ls hl => ?_)
  exact bL_hands_120 (x1 := x1) X hl0 10 z0 v2 v3 v4 (0 : Int32) (0 : Int32) _ _ _ _ _ (by omega) (by omega) hW0 hS (lv_sub hl [2, 3, 4, 5, 6, 1, 0] rfl) hf
set_option maxRecDepth 100000 in
set_option maxHeartbeats 4000000 in
theorem bL_hands_72 {p : Program} {l : Launch} {e : Env} {s : State} {m : MethodId} {args : Array Value} {below : List Frame} {meth : Method} {c : Code} {D : va_G} {cy : Nat → ClassId} {ad0 : Nat → Nat} {ba0 : Nat → Prop} {x1 : Int32} {res : (Int32 × aS)} (X : teC wsL_hands RL cL_hands 26 (some .boolean) D cy ba0 p s m args meth c) (hl0 : l.stackTraces = false) : ∀ (z0 : aS) (v2 : Int32) (v3 : Int32) (v4 : Int32) (v5 : Int32) (y0 : Int32) (H : Heap) (locs : List Loc) (ls : Array Slot) (ce sl : Nat), ce + (8857) ≤ 8861 → sl + (53142) ≤ 53166 → aR D cy ad0 ba0 z0 H → va_S ba0 s.heap H locs → lv_has ls 26 [(0, .ref (ad0 360)), (1, .int x1), (2, .int v2), (3, .int v3), (4, .int v4), (5, .int v5)] → hL_hands_72 x1 z0 v2 v3 v4 v5 y0 = some res → W p l e (headSpec wsL_hands rmL_hands).room s m args below meth c H locs ce sl (MQ below (va_Qi (fun a (_ : Unit) => a = res.1) (fun _ t => (aR D cy ad0 ba0 res.2) t.heap) ba0) args s 8861 53166 ba0) (F0 m 72 ls [.int y0]) := by
  have hx := X.1
  have hb := X.2.1
  have hown := X.2.2.2.2.1
  intro z0 v2 v3 v4 v5 y0 H locs ls ce sl hb1_ hb2_ hW0 hS hl hf
  unfold hL_hands_72 at hf
  refine lv_istore (lv' := [(6, .int y0), (0, .ref (ad0 360)), (1, .int x1), (2, .int v2), (3, .int v3), (4, .int v4), (5, .int v5)]) hx hb dL_hands_72 hl (by decide) rfl (fun ls hl => ?_)
  refine lv_aload_n hx hb dL_hands_74 rfl (lv_at hl 1 rfl) ?_
  obtain ⟨r_13, z0_4, hq_14, hf⟩ := bd2_some hf
  refine kD (As := []) (rest := []) X (fun q h => h) hW0 hS (tD_match l D cy ad0 ba0 hq_14) (cwV 0 X.2.2.2.2.2.1 gL_hands_X5_match rfl rfl rfl kdX5_match ⟨(Nat.le_of_ble_eq_true rfl), (Nat.le_of_ble_eq_true rfl)⟩) rfl rfl hl.1 (Nat.le_of_ble_eq_true rfl) ⟨by show _ ≤ 8861; omega, by show _ ≤ 53166; omega⟩ dL_hands_75 (fun H locs hW0 hS hz hk => ?_)
  clear hz hk
  refine lv_istore (lv' := [(7, .int r_13), (6, .int y0), (0, .ref (ad0 360)), (1, .int x1), (2, .int v2), (3, .int v3), (4, .int v4), (5, .int v5)]) hx hb dL_hands_78 hl (by decide) rfl (fun ls hl => ?_)
  refine lv_iload hx hb dL_hands_80 (lv_at hl 1 rfl) ?_
  refine lv_if_eq (tgt := 114) hx hb dL_hands_82 (by decide) (fun c_15 => ?_) (fun c_15 => ?_)
  · replace hf := ite_t c_15 hf
    exact bL_hands_114 (x1 := x1) X hl0 z0_4 v2 v3 v4 _ _ _ _ _ (by omega) (by omega) hW0 hS (lv_sub hl [2, 3, 4, 5, 6] rfl) hf
  · replace hf := ite_f c_15 hf
    refine lv_iload hx hb dL_hands_85 (lv_at hl 0 rfl) ?_
    refine lv_if_lt (tgt := 114) hx hb dL_hands_87 (by decide) (fun c_16 => ?_) (fun c_16 => ?_)
    · replace hf := ite_t c_16 hf
      exact bL_hands_114 (x1 := x1) X hl0 z0_4 v2 v3 v4 _ _ _ _ _ (by omega) (by omega) hW0 hS (lv_sub hl [2, 3, 4, 5, 6] rfl) hf
    · replace hf := ite_f c_16 hf
      refine lv_aload_n hx hb dL_hands_90 rfl (lv_at hl 2 rfl) ?_
      refine lv_iconst (v := (1 : Int32)) hx hb dL_hands_91 (by decide) ?_
      refine kA (As := [.ref (ad0 360), .int (1 : Int32)]) (rest := []) X (fun q h => h) hW0 hS (tI_tryAbout l D cy ad0 ba0 hl0 z0_4 (1 : Int32)) (vx_cwSW (hh := [(0, 5, 6, 13)]) 2 X.2.2.2.2.2.1 gL_hands_L_tryAbout rfl rfl rfl kdL_tryAbout.2 ⟨(Nat.le_of_ble_eq_true rfl), (Nat.le_of_ble_eq_true rfl)⟩) rfl rfl hl.1 (Nat.le_of_ble_eq_true rfl) ⟨by show _ ≤ 8861; omega, by show _ ≤ 53166; omega⟩ dL_hands_92 (fun H locs hW0 hS hz hk => ?_)
      clear hz hk
      refine lv_iload hx hb dL_hands_95 (lv_at hl 7 rfl) ?_
      refine lv_iload hx hb dL_hands_97 (lv_at hl 0 rfl) ?_
      refine lv_iadd hx hb dL_hands_99 ?_
      refine lv_icmp_ne (tgt := 114) hx hb dL_hands_100 (by decide) (fun c_17 => ?_) (fun c_17 => ?_)
      · replace hf := ite_f c_17 hf
        exact bL_hands_114 (x1 := x1) X hl0 z0_4 v2 v3 v4 _ _ _ _ _ (by omega) (by omega) hW0 hS (lv_sub hl [2, 3, 4, 5, 6] rfl) hf
      · replace hf := ite_t c_17 hf
        refine lv_aload_n hx hb dL_hands_103 rfl (lv_at hl 2 rfl) ?_
        obtain ⟨r_18, hq_19, hf⟩ := bd1_some hf
        refine kB (As := [.ref (ad0 360)]) (rest := []) X (fun q h => h) hW0 aX_no hS (zcL_sound l D cy ad0 ba0 hl0 _ hq_19) (va_cwS 1 X.2.2.2.2.2.1 gL_hands_L_sound rfl rfl rfl kdL_sound.2 ⟨(Nat.le_of_ble_eq_true rfl), (Nat.le_of_ble_eq_true rfl)⟩) rfl rfl hl.1 (Nat.le_of_ble_eq_true rfl) ⟨by show _ ≤ 8861; omega, by show _ ≤ 53166; omega⟩ dL_hands_104 (fun H locs hW0 hS hz hk => ?_)
        clear hz hk
        refine lv_if_eq (tgt := 114) hx hb dL_hands_107 (by decide) (fun c_20 => ?_) (fun c_20 => ?_)
        · replace hf := ite_t c_20 hf
          exact bL_hands_114 (x1 := x1) X hl0 z0_4 v2 v3 v4 _ _ _ _ _ (by omega) (by omega) hW0 hS (lv_sub hl [2, 3, 4, 5, 6] rfl) hf
        · replace hf := ite_f c_20 hf
          refine lv_iconst (v := (1 : Int32)) hx hb dL_hands_110 (by decide) ?_
          refine lv_goto (tgt := 115) hx hb dL_hands_111 (by decide) ?_
          refine lv_istore (lv' := [(6, .int (1 : Int32)), (7, .int r_13), (0, .ref (ad0 360)), (1, .int x1), (2, .int v2), (3, .int v3), (4, .int v4), (5, .int v5)]) hx hb dL_hands_115 hl (by decide) rfl (fun ls hl => ?_)
          refine lv_iconst (v := (0 : Int32)) hx hb dL_hands_117 (by decide) ?_
          refine lv_istore (lv' := [(8, .int (0 : Int32)), (6, .int (1 : Int32)), (7, .int r_13), (0, .ref (ad0 360)), (1, .int x1), (2, .int v2), (3, .int v3), (4, .int v4), (5, .int v5)]) hx hb dL_hands_118 hl (by decide) rfl (fun ls hl => ?_)
          exact bL_hands_120 (x1 := x1) X hl0 10 z0_4 v2 v3 v4 (1 : Int32) (0 : Int32) _ _ _ _ _ (by omega) (by omega) hW0 hS (lv_sub hl [3, 4, 5, 6, 7, 1, 0] rfl) hf
set_option maxRecDepth 100000 in
set_option maxHeartbeats 4000000 in
theorem bL_hands_0 {p : Program} {l : Launch} {e : Env} {s : State} {m : MethodId} {args : Array Value} {below : List Frame} {meth : Method} {c : Code} {D : va_G} {cy : Nat → ClassId} {ad0 : Nat → Nat} {ba0 : Nat → Prop} {x1 : Int32} {res : (Int32 × aS)} (X : teC wsL_hands RL cL_hands 26 (some .boolean) D cy ba0 p s m args meth c) (hl0 : l.stackTraces = false) : ∀ (z0 : aS) (H : Heap) (locs : List Loc) (ls : Array Slot) (ce sl : Nat), ce + (8861) ≤ 8861 → sl + (53166) ≤ 53166 → aR D cy ad0 ba0 z0 H → va_S ba0 s.heap H locs → lv_has ls 26 [(0, .ref (ad0 360)), (1, .int x1)] → hL_hands x1 z0 = some res → W p l e (headSpec wsL_hands rmL_hands).room s m args below meth c H locs ce sl (MQ below (va_Qi (fun a (_ : Unit) => a = res.1) (fun _ t => (aR D cy ad0 ba0 res.2) t.heap) ba0) args s 8861 53166 ba0) (F0 m 0 ls []) := by
  have hx := X.1
  have hb := X.2.1
  have hown := X.2.2.2.2.1
  intro z0 H locs ls ce sl hb1_ hb2_ hW0 hS hl hf
  unfold hL_hands at hf
  refine lv_aload_n hx hb dL_hands_0 rfl (lv_at hl 0 rfl) ?_
  refine lv_iconst (v := (0 : Int32)) hx hb dL_hands_1 (by decide) ?_
  refine kA (As := [.ref (ad0 360), .int (0 : Int32)]) (rest := []) X (fun q h => h) hW0 hS (tI_tryAbout l D cy ad0 ba0 hl0 z0 (0 : Int32)) (vx_cwSW (hh := [(0, 5, 6, 13)]) 2 X.2.2.2.2.2.1 gL_hands_L_tryAbout rfl rfl rfl kdL_tryAbout.2 ⟨(Nat.le_of_ble_eq_true rfl), (Nat.le_of_ble_eq_true rfl)⟩) rfl rfl hl.1 (Nat.le_of_ble_eq_true rfl) ⟨by show _ ≤ 8861; omega, by show _ ≤ 53166; omega⟩ dL_hands_2 (fun H locs hW0 hS hz hk => ?_)
  clear hz hk
  refine lv_istore_n (lv' := [(2, .int (A_tryAbout z0 (0 : Int32))), (0, .ref (ad0 360)), (1, .int x1)]) hx hb dL_hands_5 rfl hl (by decide) rfl (fun ls hl => ?_)
  refine lv_aload_n hx hb dL_hands_6 rfl (lv_at hl 1 rfl) ?_
  refine lv_iconst (v := (2 : Int32)) hx hb dL_hands_7 (by decide) ?_
  refine kA (As := [.ref (ad0 360), .int (2 : Int32)]) (rest := []) X (fun q h => h) hW0 hS (tI_tryAbout l D cy ad0 ba0 hl0 z0 (2 : Int32)) (vx_cwSW (hh := [(0, 5, 6, 13)]) 2 X.2.2.2.2.2.1 gL_hands_L_tryAbout rfl rfl rfl kdL_tryAbout.2 ⟨(Nat.le_of_ble_eq_true rfl), (Nat.le_of_ble_eq_true rfl)⟩) rfl rfl hl.1 (Nat.le_of_ble_eq_true rfl) ⟨by show _ ≤ 8861; omega, by show _ ≤ 53166; omega⟩ dL_hands_8 (fun H locs hW0 hS hz hk => ?_)
  clear hz hk
  refine lv_istore_n (lv' := [(3, .int (A_tryAbout z0 (2 : Int32))), (2, .int (A_tryAbout z0 (0 : Int32))), (0, .ref (ad0 360)), (1, .int x1)]) hx hb dL_hands_11 rfl hl (by decide) rfl (fun ls hl => ?_)
  refine lv_iload_n hx hb dL_hands_12 rfl (lv_at hl 1 rfl) ?_
  refine lv_if_ne (tgt := 46) hx hb dL_hands_13 (by decide) (fun c_1 => ?_) (fun c_1 => ?_)
  · replace hf := ite_f c_1 hf
    refine lv_iload_n hx hb dL_hands_46 rfl (lv_at hl 3 rfl) ?_
    refine lv_iload_n hx hb dL_hands_47 rfl (lv_at hl 1 rfl) ?_
    obtain ⟨h_2, hf⟩ := chk_some hf
    refine lv_irem hx hb dL_hands_48 (of_decide_eq_true h_2) ?_
    refine lv_istore (lv' := [(4, .int (x1 - x1 / (A_tryAbout z0 (0 : Int32)) * (A_tryAbout z0 (0 : Int32)))), (3, .int (A_tryAbout z0 (2 : Int32))), (2, .int (A_tryAbout z0 (0 : Int32))), (0, .ref (ad0 360)), (1, .int x1)]) hx hb dL_hands_49 hl (by decide) rfl (fun ls hl => ?_)
    refine lv_aload_n hx hb dL_hands_51 rfl (lv_at hl 3 rfl) ?_
    refine lv_iconst (v := (1 : Int32)) hx hb dL_hands_52 (by decide) ?_
    refine kA (As := [.ref (ad0 360), .int (1 : Int32)]) (rest := []) X (fun q h => h) hW0 hS (tI_tryAbout l D cy ad0 ba0 hl0 z0 (1 : Int32)) (vx_cwSW (hh := [(0, 5, 6, 13)]) 2 X.2.2.2.2.2.1 gL_hands_L_tryAbout rfl rfl rfl kdL_tryAbout.2 ⟨(Nat.le_of_ble_eq_true rfl), (Nat.le_of_ble_eq_true rfl)⟩) rfl rfl hl.1 (Nat.le_of_ble_eq_true rfl) ⟨by show _ ≤ 8861; omega, by show _ ≤ 53166; omega⟩ dL_hands_53 (fun H locs hW0 hS hz hk => ?_)
    clear hz hk
    refine lv_istore (lv' := [(5, .int (A_tryAbout z0 (1 : Int32))), (4, .int (x1 - x1 / (A_tryAbout z0 (0 : Int32)) * (A_tryAbout z0 (0 : Int32)))), (3, .int (A_tryAbout z0 (2 : Int32))), (2, .int (A_tryAbout z0 (0 : Int32))), (0, .ref (ad0 360)), (1, .int x1)]) hx hb dL_hands_56 hl (by decide) rfl (fun ls hl => ?_)
    refine lv_aload_n hx hb dL_hands_58 rfl (lv_at hl 4 rfl) ?_
    refine lv_iconst (v := (0 : Int32)) hx hb dL_hands_59 (by decide) ?_
    obtain ⟨r_3, z0_1, hq_4, hf⟩ := bd2_some hf
    refine kA (As := [.ref (ad0 360), .int (0 : Int32)]) (rest := []) X (fun q h => h) hW0 hS (tI_trySave l D cy ad0 ba0 hl0 hq_4) (vx_cwSW (hh := [(0, 5, 6, 30)]) 2 X.2.2.2.2.2.1 gL_hands_L_trySave rfl rfl rfl kdL_trySave.2 ⟨(Nat.le_of_ble_eq_true rfl), (Nat.le_of_ble_eq_true rfl)⟩) rfl rfl hl.1 (Nat.le_of_ble_eq_true rfl) ⟨by show _ ≤ 8861; omega, by show _ ≤ 53166; omega⟩ dL_hands_60 (fun H locs hW0 hS hz hk => ?_)
    clear hz hk
    refine lv_iload_n hx hb dL_hands_63 rfl (lv_at hl 2 rfl) ?_
    refine lv_icmp_ne (tgt := 71) hx hb dL_hands_64 (by decide) (fun c_5 => ?_) (fun c_5 => ?_)
    · replace hf := ite_f c_5 hf
      refine lv_iconst (v := (0 : Int32)) hx hb dL_hands_71 (by decide) ?_
      exact bL_hands_72 (x1 := x1) X hl0 z0_1 (A_tryAbout z0 (0 : Int32)) (A_tryAbout z0 (2 : Int32)) (x1 - x1 / (A_tryAbout z0 (0 : Int32)) * (A_tryAbout z0 (0 : Int32))) (A_tryAbout z0 (1 : Int32)) (0 : Int32) _ _ _ _ _ (by omega) (by omega) hW0 hS (lv_sub hl [4, 5, 3, 2, 1, 0] rfl) hf
    · replace hf := ite_t c_5 hf
      refine lv_iconst (v := (1 : Int32)) hx hb dL_hands_67 (by decide) ?_
      refine lv_goto (tgt := 72) hx hb dL_hands_68 (by decide) ?_
      exact bL_hands_72 (x1 := x1) X hl0 z0_1 (A_tryAbout z0 (0 : Int32)) (A_tryAbout z0 (2 : Int32)) (x1 - x1 / (A_tryAbout z0 (0 : Int32)) * (A_tryAbout z0 (0 : Int32))) (A_tryAbout z0 (1 : Int32)) (1 : Int32) _ _ _ _ _ (by omega) (by omega) hW0 hS (lv_sub hl [4, 5, 3, 2, 1, 0] rfl) hf
  · replace hf := ite_t c_1 hf
    refine lv_aload_n hx hb dL_hands_16 rfl (lv_at hl 2 rfl) ?_
    refine kD (As := []) (rest := []) X (fun q h => h) hW0 hS (tD_missedMost l D cy ad0 ba0 z0) (cwV 0 X.2.2.2.2.2.1 gL_hands_X5_missedMost rfl rfl rfl kdX5_missedMost ⟨(Nat.le_of_ble_eq_true rfl), (Nat.le_of_ble_eq_true rfl)⟩) rfl rfl hl.1 (Nat.le_of_ble_eq_true rfl) ⟨by show _ ≤ 8861; omega, by show _ ≤ 53166; omega⟩ dL_hands_17 (fun H locs hW0 hS hz hk => ?_)
    clear hz hk
    refine lv_sipush (v := (-9999 : Int32)) hx hb dL_hands_20 (by decide) ?_
    refine lv_icmp_ne (tgt := 44) hx hb dL_hands_23 (by decide) (fun c_6 => ?_) (fun c_6 => ?_)
    · replace hf := ite_f c_6 hf
      refine lv_iconst (v := (0 : Int32)) hx hb dL_hands_44 (by decide) ?_
      cases Option.some.inj hf
      exact eKz (v := (0 : Int32)) X hW0 hS (by decide) rfl (by omega) (by omega) dL_hands_45
    · replace hf := ite_t c_6 hf
      refine lv_aload_n hx hb dL_hands_26 rfl (lv_at hl 2 rfl) ?_
      obtain ⟨r_7, z0_2, hq_8, hf⟩ := bd2_some hf
      refine kD (As := []) (rest := []) X (fun q h => h) hW0 hS (tD_match l D cy ad0 ba0 hq_8) (cwV 0 X.2.2.2.2.2.1 gL_hands_X5_match rfl rfl rfl kdX5_match ⟨(Nat.le_of_ble_eq_true rfl), (Nat.le_of_ble_eq_true rfl)⟩) rfl rfl hl.1 (Nat.le_of_ble_eq_true rfl) ⟨by show _ ≤ 8861; omega, by show _ ≤ 53166; omega⟩ dL_hands_27 (fun H locs hW0 hS hz hk => ?_)
      clear hz hk
      refine lv_if_ne (tgt := 44) hx hb dL_hands_30 (by decide) (fun c_9 => ?_) (fun c_9 => ?_)
      · replace hf := ite_f c_9 hf
        refine lv_iconst (v := (0 : Int32)) hx hb dL_hands_44 (by decide) ?_
        cases Option.some.inj hf
        exact eKz (v := (0 : Int32)) X hW0 hS (by decide) rfl (by omega) (by omega) dL_hands_45
      · replace hf := ite_t c_9 hf
        refine lv_aload_n hx hb dL_hands_33 rfl (lv_at hl 2 rfl) ?_
        obtain ⟨r_10, z0_3, hq_11, hf⟩ := bd2_some hf
        refine kA (As := [.ref (ad0 360)]) (rest := []) X (fun q h => h) hW0 hS (tI_tryUndo l D cy ad0 ba0 hl0 hq_11) (vx_cwSW (hh := [(0, 4, 5, 16)]) 1 X.2.2.2.2.2.1 gL_hands_L_tryUndo rfl rfl rfl kdL_tryUndo.2 ⟨(Nat.le_of_ble_eq_true rfl), (Nat.le_of_ble_eq_true rfl)⟩) rfl rfl hl.1 (Nat.le_of_ble_eq_true rfl) ⟨by show _ ≤ 8861; omega, by show _ ≤ 53166; omega⟩ dL_hands_34 (fun H locs hW0 hS hz hk => ?_)
        clear hz hk
        refine lv_if_ne (tgt := 44) hx hb dL_hands_37 (by decide) (fun c_12 => ?_) (fun c_12 => ?_)
        · replace hf := ite_f c_12 hf
          refine lv_iconst (v := (0 : Int32)) hx hb dL_hands_44 (by decide) ?_
          cases Option.some.inj hf
          exact eKz (v := (0 : Int32)) X hW0 hS (by decide) rfl (by omega) (by omega) dL_hands_45
        · replace hf := ite_t c_12 hf
          refine lv_iconst (v := (1 : Int32)) hx hb dL_hands_40 (by decide) ?_
          refine lv_goto (tgt := 45) hx hb dL_hands_41 (by decide) ?_
          cases Option.some.inj hf
          exact eKz (v := (1 : Int32)) X hW0 hS (by decide) rfl (by omega) (by omega) dL_hands_45
theorem zcL_hands (l : Launch) (D : va_G) (cy : Nat → ClassId) (ad0 : Nat → Nat) (ba0 : Nat → Prop) (hl0 : l.stackTraces = false) {z0 : aS} {x1 : Int32} (res : (Int32 × aS)) (hf : hL_hands x1 z0 = some res) : aJ l yL_hands wsL_hands rmL_hands 8861 53166 D cy ba0 (aR D cy ad0 ba0 z0) false 0 0 (fun _ => 0) [.ref (ad0 360), .int x1] res.1 (aR D cy ad0 ba0 res.2) :=
  a_of (by decide) rfl (Nat.le_of_ble_eq_true rfl) (fun p e s m below meth c ls X hW hX hS hl => bL_hands_0 (x1 := x1) X hl0 z0 _ _ _ 0 0 (Nat.le_of_ble_eq_true rfl) (Nat.le_of_ble_eq_true rfl) hW hS hl hf)
