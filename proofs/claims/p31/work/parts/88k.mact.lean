abbrev rmL_act : Room := { frames := 10, cells := 2, slots := 12, locals := 180 }
theorem kdL_act : yL_act.cls = RL ∧ yL_act.cls ≠ "java/lang/invoke/MethodHandle" ∧ yL_act.cls ≠ "java/lang/invoke/VarHandle" ∧ (parseMethodDescriptor yL_act.desc).map (fun d => d.parameters.length) = some 3 := by decide +kernel
theorem wL_act_259 : Cond.constant RL 259 (65536) ∈ wsL_act := by decide +kernel
set_option maxRecDepth 100000 in
set_option maxHeartbeats 4000000 in
theorem bL_act_112 {p : Program} {l : Launch} {e : Env} {s : State} {m : MethodId} {args : Array Value} {below : List Frame} {meth : Method} {c : Code} {D : va_G} {cy : Nat → ClassId} {ad0 : Nat → Nat} {ba0 : Nat → Prop} {x1 : Int32} {x2 : Int32} {res : (Int32 × aS)} (X : teC wsL_act RL cL_act 6 (some .int) D cy ba0 p s m args meth c) (hl0 : l.stackTraces = false) : ∀ (z0 : aS) (H : Heap) (locs : List Loc) (ls : Array Slot) (ce sl : Nat), ce + (1) ≤ 2 → sl + (6) ≤ 12 → aR D cy ad0 ba0 z0 H → va_S ba0 s.heap H locs → lv_has ls 6 [(0, .ref (ad0 360)), (2, .int x2)] → hL_act_112 x1 x2 z0 = some res → W p l e (headSpec wsL_act rmL_act).room s m args below meth c H locs ce sl (MQ below (va_Qi (fun a (_ : Unit) => a = res.1) (fun _ t => (aR D cy ad0 ba0 res.2) t.heap) ba0) args s 2 12 ba0) (F0 m 112 ls []) := by
  have hx := X.1
  have hb := X.2.1
  have hown := X.2.2.2.2.1
  intro z0 H locs ls ce sl hb1_ hb2_ hW0 hS hl hf
  unfold hL_act_112 at hf
  refine lv_aload_n hx hb dL_act_112 rfl (lv_at hl 0 rfl) ?_
  refine lv_iload_n hx hb dL_act_113 rfl (lv_at hl 1 rfl) ?_
  refine lv_iconst (v := (4 : Int32)) hx hb dL_act_114 (by decide) ?_
  refine lv_irem hx hb dL_act_115 (by decide) ?_
  refine lv_iload_n hx hb dL_act_116 rfl (lv_at hl 1 rfl) ?_
  refine lv_iconst (v := (4 : Int32)) hx hb dL_act_117 (by decide) ?_
  refine lv_idiv hx hb dL_act_118 (by decide) ?_
  refine lv_sipush (v := (10000 : Int32)) hx hb dL_act_119 (by decide) ?_
  refine lv_irem hx hb dL_act_122 (by decide) ?_
  refine lv_iload_n hx hb dL_act_123 rfl (lv_at hl 1 rfl) ?_
  refine lv_ldcw (v := (65536 : Int32)) hx hb hown (X.2.2.2.2.2.1 _ wL_act_259) dL_act_124 ?_
  refine lv_idiv hx hb dL_act_127 (by decide) ?_
  refine lv_sipush (v := (199 : Int32)) hx hb dL_act_128 (by decide) ?_
  refine lv_irem hx hb dL_act_131 (by decide) ?_
  refine lv_bipush (v := (99 : Int32)) hx hb dL_act_132 (by decide) ?_
  refine lv_isub hx hb dL_act_134 ?_
  obtain ⟨r_46, z0_13, hq_47, hf⟩ := bd2_some hf
  refine kA (As := [.ref (ad0 360), .int (x2 - x2 / (4 : Int32) * (4 : Int32)), .int ((x2 / (4 : Int32)) - (x2 / (4 : Int32)) / (10000 : Int32) * (10000 : Int32)), .int (((x2 / (65536 : Int32)) - (x2 / (65536 : Int32)) / (199 : Int32) * (199 : Int32)) - (99 : Int32))]) (rest := []) X (fun q h => h) hW0 hS (tI_tryJoin l D cy ad0 ba0 hl0 hq_47) (vx_cwSW (hh := [(0, 7, 8, 13), (0, 7, 13, 16)]) 4 X.2.2.2.2.2.1 gL_act_L_tryJoin rfl rfl rfl kdL_tryJoin.2 ⟨(Nat.le_of_ble_eq_true rfl), (Nat.le_of_ble_eq_true rfl)⟩) rfl rfl hl.1 (Nat.le_of_ble_eq_true rfl) ⟨by show _ ≤ 2; omega, by show _ ≤ 12; omega⟩ dL_act_135 (fun H locs hW0 hS hz hk => ?_)
  clear hz hk
  cases Option.some.inj hf
  exact eK X hW0 hS rfl (by omega) (by omega) dL_act_138
set_option maxRecDepth 100000 in
set_option maxHeartbeats 4000000 in
theorem bL_act_234 {p : Program} {l : Launch} {e : Env} {s : State} {m : MethodId} {args : Array Value} {below : List Frame} {meth : Method} {c : Code} {D : va_G} {cy : Nat → ClassId} {ad0 : Nat → Nat} {ba0 : Nat → Prop} {x1 : Int32} {x2 : Int32} {res : (Int32 × aS)} (X : teC wsL_act RL cL_act 6 (some .int) D cy ba0 p s m args meth c) (hl0 : l.stackTraces = false) : ∀ (z0 : aS) (H : Heap) (locs : List Loc) (ls : Array Slot) (ce sl : Nat), ce + (1) ≤ 2 → sl + (6) ≤ 12 → aR D cy ad0 ba0 z0 H → va_S ba0 s.heap H locs → lv_has ls 6 [(0, .ref (ad0 360)), (2, .int x2)] → hL_act_234 x1 x2 z0 = some res → W p l e (headSpec wsL_act rmL_act).room s m args below meth c H locs ce sl (MQ below (va_Qi (fun a (_ : Unit) => a = res.1) (fun _ t => (aR D cy ad0 ba0 res.2) t.heap) ba0) args s 2 12 ba0) (F0 m 234 ls []) := by
  have hx := X.1
  have hb := X.2.1
  have hown := X.2.2.2.2.1
  intro z0 H locs ls ce sl hb1_ hb2_ hW0 hS hl hf
  unfold hL_act_234 at hf
  refine lv_aload_n hx hb dL_act_234 rfl (lv_at hl 0 rfl) ?_
  refine lv_iload_n hx hb dL_act_235 rfl (lv_at hl 1 rfl) ?_
  refine lv_sipush (v := (512 : Int32)) hx hb dL_act_236 (by decide) ?_
  refine lv_irem hx hb dL_act_239 (by decide) ?_
  refine lv_iload_n hx hb dL_act_240 rfl (lv_at hl 1 rfl) ?_
  refine lv_sipush (v := (512 : Int32)) hx hb dL_act_241 (by decide) ?_
  refine lv_idiv hx hb dL_act_244 (by decide) ?_
  refine lv_iand hx hb dL_act_245 ?_
  obtain ⟨r_48, z0_14, hq_49, hf⟩ := bd2_some hf
  refine kA (As := [.ref (ad0 360), .int ((x2 - x2 / (512 : Int32) * (512 : Int32)) &&& (x2 / (512 : Int32)))]) (rest := []) X (fun q h => h) hW0 hS (tI_tryWeek l D cy ad0 ba0 hl0 hq_49) (vx_cwSW (hh := [(0, 5, 6, 13)]) 2 X.2.2.2.2.2.1 gL_act_L_tryWeek rfl rfl rfl kdL_tryWeek.2 ⟨(Nat.le_of_ble_eq_true rfl), (Nat.le_of_ble_eq_true rfl)⟩) rfl rfl hl.1 (Nat.le_of_ble_eq_true rfl) ⟨by show _ ≤ 2; omega, by show _ ≤ 12; omega⟩ dL_act_246 (fun H locs hW0 hS hz hk => ?_)
  clear hz hk
  cases Option.some.inj hf
  exact eK X hW0 hS rfl (by omega) (by omega) dL_act_249
set_option maxRecDepth 100000 in
set_option maxHeartbeats 4000000 in
theorem bL_act_33 {p : Program} {l : Launch} {e : Env} {s : State} {m : MethodId} {args : Array Value} {below : List Frame} {meth : Method} {c : Code} {D : va_G} {cy : Nat → ClassId} {ad0 : Nat → Nat} {ba0 : Nat → Prop} {x1 : Int32} {x2 : Int32} {res : (Int32 × aS)} (X : teC wsL_act RL cL_act 6 (some .int) D cy ba0 p s m args meth c) (hl0 : l.stackTraces = false) : ∀ (z0 : aS) (v3 : Int32) (v4 : Int32) (y0 : Int32) (H : Heap) (locs : List Loc) (ls : Array Slot) (ce sl : Nat), ce + (1) ≤ 2 → sl + (6) ≤ 12 → aR D cy ad0 ba0 z0 H → va_S ba0 s.heap H locs → lv_has ls 6 [(0, .ref (ad0 360)), (1, .int x1), (2, .int x2), (3, .int v3), (4, .int v4)] → hL_act_33 x1 x2 z0 v3 v4 y0 = some res → W p l e (headSpec wsL_act rmL_act).room s m args below meth c H locs ce sl (MQ below (va_Qi (fun a (_ : Unit) => a = res.1) (fun _ t => (aR D cy ad0 ba0 res.2) t.heap) ba0) args s 2 12 ba0) (F0 m 33 ls [.int y0]) := by
  have hx := X.1
  have hb := X.2.1
  have hown := X.2.2.2.2.1
  intro z0 v3 v4 y0 H locs ls ce sl hb1_ hb2_ hW0 hS hl hf
  unfold hL_act_33 at hf
  refine lv_istore (lv' := [(5, .int y0), (0, .ref (ad0 360)), (1, .int x1), (2, .int x2), (3, .int v3), (4, .int v4)]) hx hb dL_act_33 hl (by decide) rfl (fun ls hl => ?_)
  refine lv_iload_n hx hb dL_act_35 rfl (lv_at hl 2 rfl) ?_
  refine lv_bipush (v := (16 : Int32)) hx hb dL_act_36 (by decide) ?_
  refine lv_irem hx hb dL_act_38 (by decide) ?_
  by_cases c_5 : (x1 - x1 / (16 : Int32) * (16 : Int32)) = (0 : Int32)
  · replace hf := ite_t c_5 hf
    refine lv_tableIn (off := 73) (tgt := 112) hx hb dL_act_39 (by rw [c_5]; decide) (by rw [c_5]; decide) (by rw [c_5]; decide) (by decide) ?_
    exact bL_act_112 (x1 := x1) (x2 := x2) X hl0 z0 _ _ _ _ _ (by omega) (by omega) hW0 hS (lv_sub hl [1, 3] rfl) hf
  replace hf := ite_f c_5 hf
  by_cases c_6 : (x1 - x1 / (16 : Int32) * (16 : Int32)) = (1 : Int32)
  · replace hf := ite_t c_6 hf
    refine lv_tableIn (off := 73) (tgt := 112) hx hb dL_act_39 (by rw [c_6]; decide) (by rw [c_6]; decide) (by rw [c_6]; decide) (by decide) ?_
    exact bL_act_112 (x1 := x1) (x2 := x2) X hl0 z0 _ _ _ _ _ (by omega) (by omega) hW0 hS (lv_sub hl [1, 3] rfl) hf
  replace hf := ite_f c_6 hf
  by_cases c_7 : (x1 - x1 / (16 : Int32) * (16 : Int32)) = (2 : Int32)
  · replace hf := ite_t c_7 hf
    refine lv_tableIn (off := 100) (tgt := 139) hx hb dL_act_39 (by rw [c_7]; decide) (by rw [c_7]; decide) (by rw [c_7]; decide) (by decide) ?_
    refine lv_iload_n hx hb dL_act_139 rfl (lv_at hl 4 rfl) ?_
    refine lv_iconst (v := (3 : Int32)) hx hb dL_act_140 (by decide) ?_
    refine lv_icmp_le (tgt := 153) hx hb dL_act_141 (by decide) (fun c_8 => ?_) (fun c_8 => ?_)
    · replace hf := ite_t c_8 hf
      refine lv_aload_n hx hb dL_act_153 rfl (lv_at hl 1 rfl) ?_
      refine lv_iload_n hx hb dL_act_154 rfl (lv_at hl 3 rfl) ?_
      refine lv_iconst (v := (4 : Int32)) hx hb dL_act_155 (by decide) ?_
      refine lv_irem hx hb dL_act_156 (by decide) ?_
      refine lv_iload_n hx hb dL_act_157 rfl (lv_at hl 3 rfl) ?_
      refine lv_iconst (v := (4 : Int32)) hx hb dL_act_158 (by decide) ?_
      refine lv_idiv hx hb dL_act_159 (by decide) ?_
      refine lv_sipush (v := (10000 : Int32)) hx hb dL_act_160 (by decide) ?_
      refine lv_irem hx hb dL_act_163 (by decide) ?_
      refine lv_iconst (v := (0 : Int32)) hx hb dL_act_164 (by decide) ?_
      obtain ⟨r_9, z0_1, hq_10, hf⟩ := bd2_some hf
      refine kA (As := [.ref (ad0 360), .int (x2 - x2 / (4 : Int32) * (4 : Int32)), .int ((x2 / (4 : Int32)) - (x2 / (4 : Int32)) / (10000 : Int32) * (10000 : Int32)), .int (0 : Int32)]) (rest := []) X (fun q h => h) hW0 hS (tI_tryJoin l D cy ad0 ba0 hl0 hq_10) (vx_cwSW (hh := [(0, 7, 8, 13), (0, 7, 13, 16)]) 4 X.2.2.2.2.2.1 gL_act_L_tryJoin rfl rfl rfl kdL_tryJoin.2 ⟨(Nat.le_of_ble_eq_true rfl), (Nat.le_of_ble_eq_true rfl)⟩) rfl rfl hl.1 (Nat.le_of_ble_eq_true rfl) ⟨by show _ ≤ 2; omega, by show _ ≤ 12; omega⟩ dL_act_165 (fun H locs hW0 hS hz hk => ?_)
      clear hz hk
      cases Option.some.inj hf
      exact eK X hW0 hS rfl (by omega) (by omega) dL_act_168
    · replace hf := ite_f c_8 hf
      refine lv_aload_n hx hb dL_act_144 rfl (lv_at hl 1 rfl) ?_
      refine lv_iload hx hb dL_act_145 (lv_at hl 5 rfl) ?_
      obtain ⟨r_11, z0_2, hq_12, hf⟩ := bd2_some hf
      refine kA (As := [.ref (ad0 360), .int v4]) (rest := []) X (fun q h => h) hW0 hS (tI_tryLeave l D cy ad0 ba0 hl0 hq_12) (vx_cwSW (hh := [(0, 5, 6, 30)]) 2 X.2.2.2.2.2.1 gL_act_L_tryLeave rfl rfl rfl kdL_tryLeave.2 ⟨(Nat.le_of_ble_eq_true rfl), (Nat.le_of_ble_eq_true rfl)⟩) rfl rfl hl.1 (Nat.le_of_ble_eq_true rfl) ⟨by show _ ≤ 2; omega, by show _ ≤ 12; omega⟩ dL_act_147 (fun H locs hW0 hS hz hk => ?_)
      clear hz hk
      refine lv_goto (tgt := 168) hx hb dL_act_150 (by decide) ?_
      cases Option.some.inj hf
      exact eK X hW0 hS rfl (by omega) (by omega) dL_act_168
  replace hf := ite_f c_7 hf
  by_cases c_13 : (x1 - x1 / (16 : Int32) * (16 : Int32)) = (3 : Int32)
  · replace hf := ite_t c_13 hf
    refine lv_tableIn (off := 130) (tgt := 169) hx hb dL_act_39 (by rw [c_13]; decide) (by rw [c_13]; decide) (by rw [c_13]; decide) (by decide) ?_
    refine lv_aload_n hx hb dL_act_169 rfl (lv_at hl 1 rfl) ?_
    refine lv_iload hx hb dL_act_170 (lv_at hl 5 rfl) ?_
    refine lv_iload_n hx hb dL_act_172 rfl (lv_at hl 3 rfl) ?_
    refine lv_bipush (v := (16 : Int32)) hx hb dL_act_173 (by decide) ?_
    refine lv_idiv hx hb dL_act_175 (by decide) ?_
    refine lv_iconst (v := (4 : Int32)) hx hb dL_act_176 (by decide) ?_
    refine lv_irem hx hb dL_act_177 (by decide) ?_
    obtain ⟨r_14, z0_3, hq_15, hf⟩ := bd2_some hf
    refine kA (As := [.ref (ad0 360), .int v4, .int ((x2 / (16 : Int32)) - (x2 / (16 : Int32)) / (4 : Int32) * (4 : Int32))]) (rest := []) X (fun q h => h) hW0 hS (tI_tryWant l D cy ad0 ba0 hl0 hq_15) (vx_cwSW (hh := [(0, 6, 7, 30), (0, 6, 11, 13)]) 3 X.2.2.2.2.2.1 gL_act_L_tryWant rfl rfl rfl kdL_tryWant.2 ⟨(Nat.le_of_ble_eq_true rfl), (Nat.le_of_ble_eq_true rfl)⟩) rfl rfl hl.1 (Nat.le_of_ble_eq_true rfl) ⟨by show _ ≤ 2; omega, by show _ ≤ 12; omega⟩ dL_act_178 (fun H locs hW0 hS hz hk => ?_)
    clear hz hk
    cases Option.some.inj hf
    exact eK X hW0 hS rfl (by omega) (by omega) dL_act_181
  replace hf := ite_f c_13 hf
  by_cases c_16 : (x1 - x1 / (16 : Int32) * (16 : Int32)) = (4 : Int32)
  · replace hf := ite_t c_16 hf
    refine lv_tableIn (off := 143) (tgt := 182) hx hb dL_act_39 (by rw [c_16]; decide) (by rw [c_16]; decide) (by rw [c_16]; decide) (by decide) ?_
    refine lv_aload_n hx hb dL_act_182 rfl (lv_at hl 1 rfl) ?_
    refine lv_iload hx hb dL_act_183 (lv_at hl 5 rfl) ?_
    refine lv_iload_n hx hb dL_act_185 rfl (lv_at hl 3 rfl) ?_
    refine lv_bipush (v := (16 : Int32)) hx hb dL_act_186 (by decide) ?_
    refine lv_idiv hx hb dL_act_188 (by decide) ?_
    refine lv_iconst (v := (4 : Int32)) hx hb dL_act_189 (by decide) ?_
    refine lv_irem hx hb dL_act_190 (by decide) ?_
    refine lv_iload_n hx hb dL_act_191 rfl (lv_at hl 3 rfl) ?_
    refine lv_bipush (v := (64 : Int32)) hx hb dL_act_192 (by decide) ?_
    refine lv_idiv hx hb dL_act_194 (by decide) ?_
    refine lv_bipush (v := (100 : Int32)) hx hb dL_act_195 (by decide) ?_
    refine lv_irem hx hb dL_act_197 (by decide) ?_
    obtain ⟨r_17, z0_4, hq_18, hf⟩ := bd2_some hf
    refine kA (As := [.ref (ad0 360), .int v4, .int ((x2 / (16 : Int32)) - (x2 / (16 : Int32)) / (4 : Int32) * (4 : Int32)), .int ((x2 / (64 : Int32)) - (x2 / (64 : Int32)) / (100 : Int32) * (100 : Int32))]) (rest := []) X (fun q h => h) hW0 hS (tI_tryTest l D cy ad0 ba0 hl0 hq_18) (vx_cwSW (hh := [(0, 7, 8, 30), (0, 7, 13, 13)]) 4 X.2.2.2.2.2.1 gL_act_L_tryTest rfl rfl rfl kdL_tryTest.2 ⟨(Nat.le_of_ble_eq_true rfl), (Nat.le_of_ble_eq_true rfl)⟩) rfl rfl hl.1 (Nat.le_of_ble_eq_true rfl) ⟨by show _ ≤ 2; omega, by show _ ≤ 12; omega⟩ dL_act_198 (fun H locs hW0 hS hz hk => ?_)
    clear hz hk
    cases Option.some.inj hf
    exact eK X hW0 hS rfl (by omega) (by omega) dL_act_201
  replace hf := ite_f c_16 hf
  by_cases c_19 : (x1 - x1 / (16 : Int32) * (16 : Int32)) = (5 : Int32)
  · replace hf := ite_t c_19 hf
    refine lv_tableIn (off := 163) (tgt := 202) hx hb dL_act_39 (by rw [c_19]; decide) (by rw [c_19]; decide) (by rw [c_19]; decide) (by decide) ?_
    refine lv_aload_n hx hb dL_act_202 rfl (lv_at hl 1 rfl) ?_
    refine lv_iload hx hb dL_act_203 (lv_at hl 5 rfl) ?_
    refine lv_iload hx hb dL_act_205 (lv_at hl 0 rfl) ?_
    obtain ⟨r_20, z0_5, hq_21, hf⟩ := bd2_some hf
    refine kA (As := [.ref (ad0 360), .int v4, .int y0]) (rest := []) X (fun q h => h) hW0 hS (tI_tryPair l D cy ad0 ba0 hl0 hq_21) (vx_cwSW (hh := [(0, 6, 7, 30), (0, 6, 11, 13), (0, 6, 15, 16)]) 3 X.2.2.2.2.2.1 gL_act_L_tryPair rfl rfl rfl kdL_tryPair.2 ⟨(Nat.le_of_ble_eq_true rfl), (Nat.le_of_ble_eq_true rfl)⟩) rfl rfl hl.1 (Nat.le_of_ble_eq_true rfl) ⟨by show _ ≤ 2; omega, by show _ ≤ 12; omega⟩ dL_act_207 (fun H locs hW0 hS hz hk => ?_)
    clear hz hk
    cases Option.some.inj hf
    exact eK X hW0 hS rfl (by omega) (by omega) dL_act_210
  replace hf := ite_f c_19 hf
  by_cases c_22 : (x1 - x1 / (16 : Int32) * (16 : Int32)) = (6 : Int32)
  · replace hf := ite_t c_22 hf
    refine lv_tableIn (off := 172) (tgt := 211) hx hb dL_act_39 (by rw [c_22]; decide) (by rw [c_22]; decide) (by rw [c_22]; decide) (by decide) ?_
    refine lv_aload_n hx hb dL_act_211 rfl (lv_at hl 1 rfl) ?_
    refine lv_iload hx hb dL_act_212 (lv_at hl 5 rfl) ?_
    obtain ⟨r_23, z0_6, hq_24, hf⟩ := bd2_some hf
    refine kA (As := [.ref (ad0 360), .int v4]) (rest := []) X (fun q h => h) hW0 hS (tI_tryPart l D cy ad0 ba0 hl0 hq_24) (vx_cwSW (hh := [(0, 5, 6, 30), (0, 5, 10, 16)]) 2 X.2.2.2.2.2.1 gL_act_L_tryPart rfl rfl rfl kdL_tryPart.2 ⟨(Nat.le_of_ble_eq_true rfl), (Nat.le_of_ble_eq_true rfl)⟩) rfl rfl hl.1 (Nat.le_of_ble_eq_true rfl) ⟨by show _ ≤ 2; omega, by show _ ≤ 12; omega⟩ dL_act_214 (fun H locs hW0 hS hz hk => ?_)
    clear hz hk
    cases Option.some.inj hf
    exact eK X hW0 hS rfl (by omega) (by omega) dL_act_217
  replace hf := ite_f c_22 hf
  by_cases c_25 : (x1 - x1 / (16 : Int32) * (16 : Int32)) = (7 : Int32)
  · replace hf := ite_t c_25 hf
    refine lv_tableIn (off := 179) (tgt := 218) hx hb dL_act_39 (by rw [c_25]; decide) (by rw [c_25]; decide) (by rw [c_25]; decide) (by decide) ?_
    refine lv_aload_n hx hb dL_act_218 rfl (lv_at hl 1 rfl) ?_
    obtain ⟨r_26, z0_7, hq_27, hf⟩ := bd2_some hf
    refine kD (As := []) (rest := []) X (fun q h => h) hW0 hS (tD_match l D cy ad0 ba0 hq_27) (cwV 0 X.2.2.2.2.2.1 gL_act_X5_match rfl rfl rfl kdX5_match ⟨(Nat.le_of_ble_eq_true rfl), (Nat.le_of_ble_eq_true rfl)⟩) rfl rfl hl.1 (Nat.le_of_ble_eq_true rfl) ⟨by show _ ≤ 2; omega, by show _ ≤ 12; omega⟩ dL_act_219 (fun H locs hW0 hS hz hk => ?_)
    clear hz hk
    cases Option.some.inj hf
    exact eK X hW0 hS rfl (by omega) (by omega) dL_act_222
  replace hf := ite_f c_25 hf
  by_cases c_28 : (x1 - x1 / (16 : Int32) * (16 : Int32)) = (8 : Int32)
  · replace hf := ite_t c_28 hf
    refine lv_tableIn (off := 179) (tgt := 218) hx hb dL_act_39 (by rw [c_28]; decide) (by rw [c_28]; decide) (by rw [c_28]; decide) (by decide) ?_
    refine lv_aload_n hx hb dL_act_218 rfl (lv_at hl 1 rfl) ?_
    obtain ⟨r_29, z0_8, hq_30, hf⟩ := bd2_some hf
    refine kD (As := []) (rest := []) X (fun q h => h) hW0 hS (tD_match l D cy ad0 ba0 hq_30) (cwV 0 X.2.2.2.2.2.1 gL_act_X5_match rfl rfl rfl kdX5_match ⟨(Nat.le_of_ble_eq_true rfl), (Nat.le_of_ble_eq_true rfl)⟩) rfl rfl hl.1 (Nat.le_of_ble_eq_true rfl) ⟨by show _ ≤ 2; omega, by show _ ≤ 12; omega⟩ dL_act_219 (fun H locs hW0 hS hz hk => ?_)
    clear hz hk
    cases Option.some.inj hf
    exact eK X hW0 hS rfl (by omega) (by omega) dL_act_222
  replace hf := ite_f c_28 hf
  by_cases c_31 : (x1 - x1 / (16 : Int32) * (16 : Int32)) = (9 : Int32)
  · replace hf := ite_t c_31 hf
    refine lv_tableIn (off := 184) (tgt := 223) hx hb dL_act_39 (by rw [c_31]; decide) (by rw [c_31]; decide) (by rw [c_31]; decide) (by decide) ?_
    refine lv_aload_n hx hb dL_act_223 rfl (lv_at hl 1 rfl) ?_
    refine lv_iconst (v := (1 : Int32)) hx hb dL_act_224 (by decide) ?_
    refine lv_iload_n hx hb dL_act_225 rfl (lv_at hl 3 rfl) ?_
    refine lv_bipush (v := (9 : Int32)) hx hb dL_act_226 (by decide) ?_
    refine lv_irem hx hb dL_act_228 (by decide) ?_
    refine lv_iadd hx hb dL_act_229 ?_
    obtain ⟨r_32, z0_9, hq_33, hf⟩ := bd2_some hf
    refine kA (As := [.ref (ad0 360), .int ((1 : Int32) + (x2 - x2 / (9 : Int32) * (9 : Int32)))]) (rest := []) X (fun q h => h) hW0 hS (tI_trySettle l D cy ad0 ba0 hl0 hq_33) (vx_cwSW (hh := [(0, 5, 6, 13)]) 2 X.2.2.2.2.2.1 gL_act_L_trySettle rfl rfl rfl kdL_trySettle.2 ⟨(Nat.le_of_ble_eq_true rfl), (Nat.le_of_ble_eq_true rfl)⟩) rfl rfl hl.1 (Nat.le_of_ble_eq_true rfl) ⟨by show _ ≤ 2; omega, by show _ ≤ 12; omega⟩ dL_act_230 (fun H locs hW0 hS hz hk => ?_)
    clear hz hk
    cases Option.some.inj hf
    exact eK X hW0 hS rfl (by omega) (by omega) dL_act_233
  replace hf := ite_f c_31 hf
  by_cases c_34 : (x1 - x1 / (16 : Int32) * (16 : Int32)) = (10 : Int32)
  · replace hf := ite_t c_34 hf
    refine lv_tableIn (off := 195) (tgt := 234) hx hb dL_act_39 (by rw [c_34]; decide) (by rw [c_34]; decide) (by rw [c_34]; decide) (by decide) ?_
    exact bL_act_234 (x1 := x1) (x2 := x2) X hl0 z0 _ _ _ _ _ (by omega) (by omega) hW0 hS (lv_sub hl [1, 3] rfl) hf
  replace hf := ite_f c_34 hf
  by_cases c_35 : (x1 - x1 / (16 : Int32) * (16 : Int32)) = (11 : Int32)
  · replace hf := ite_t c_35 hf
    refine lv_tableIn (off := 195) (tgt := 234) hx hb dL_act_39 (by rw [c_35]; decide) (by rw [c_35]; decide) (by rw [c_35]; decide) (by decide) ?_
    exact bL_act_234 (x1 := x1) (x2 := x2) X hl0 z0 _ _ _ _ _ (by omega) (by omega) hW0 hS (lv_sub hl [1, 3] rfl) hf
  replace hf := ite_f c_35 hf
  by_cases c_36 : (x1 - x1 / (16 : Int32) * (16 : Int32)) = (12 : Int32)
  · replace hf := ite_t c_36 hf
    refine lv_tableIn (off := 195) (tgt := 234) hx hb dL_act_39 (by rw [c_36]; decide) (by rw [c_36]; decide) (by rw [c_36]; decide) (by decide) ?_
    exact bL_act_234 (x1 := x1) (x2 := x2) X hl0 z0 _ _ _ _ _ (by omega) (by omega) hW0 hS (lv_sub hl [1, 3] rfl) hf
  replace hf := ite_f c_36 hf
  by_cases c_37 : (x1 - x1 / (16 : Int32) * (16 : Int32)) = (13 : Int32)
  · replace hf := ite_t c_37 hf
    refine lv_tableIn (off := 195) (tgt := 234) hx hb dL_act_39 (by rw [c_37]; decide) (by rw [c_37]; decide) (by rw [c_37]; decide) (by decide) ?_
    exact bL_act_234 (x1 := x1) (x2 := x2) X hl0 z0 _ _ _ _ _ (by omega) (by omega) hW0 hS (lv_sub hl [1, 3] rfl) hf
  replace hf := ite_f c_37 hf
  by_cases c_38 : (x1 - x1 / (16 : Int32) * (16 : Int32)) = (14 : Int32)
  · replace hf := ite_t c_38 hf
    refine lv_tableIn (off := 211) (tgt := 250) hx hb dL_act_39 (by rw [c_38]; decide) (by rw [c_38]; decide) (by rw [c_38]; decide) (by decide) ?_
    refine lv_aload_n hx hb dL_act_250 rfl (lv_at hl 1 rfl) ?_
    obtain ⟨r_39, z0_10, hq_40, hf⟩ := bd2_some hf
    refine kA (As := [.ref (ad0 360)]) (rest := []) X (fun q h => h) hW0 hS (tI_tryUndo l D cy ad0 ba0 hl0 hq_40) (vx_cwSW (hh := [(0, 4, 5, 16)]) 1 X.2.2.2.2.2.1 gL_act_L_tryUndo rfl rfl rfl kdL_tryUndo.2 ⟨(Nat.le_of_ble_eq_true rfl), (Nat.le_of_ble_eq_true rfl)⟩) rfl rfl hl.1 (Nat.le_of_ble_eq_true rfl) ⟨by show _ ≤ 2; omega, by show _ ≤ 12; omega⟩ dL_act_251 (fun H locs hW0 hS hz hk => ?_)
    clear hz hk
    cases Option.some.inj hf
    exact eK X hW0 hS rfl (by omega) (by omega) dL_act_254
  replace hf := ite_f c_38 hf
  refine lv_tableOut (tgt := 255) hx hb dL_act_39 (te_sw (fun k h1 h2 => ?_)) (by decide) ?_
  · have hk : k = 0 ∨ k = 1 ∨ k = 2 ∨ k = 3 ∨ k = 4 ∨ k = 5 ∨ k = 6 ∨ k = 7 ∨ k = 8 ∨ k = 9 ∨ k = 10 ∨ k = 11 ∨ k = 12 ∨ k = 13 ∨ k = 14 := by omega
    rcases hk with rfl | rfl | rfl | rfl | rfl | rfl | rfl | rfl | rfl | rfl | rfl | rfl | rfl | rfl | rfl
    · exact lv_neT c_5 (by decide)
    · exact lv_neT c_6 (by decide)
    · exact lv_neT c_7 (by decide)
    · exact lv_neT c_13 (by decide)
    · exact lv_neT c_16 (by decide)
    · exact lv_neT c_19 (by decide)
    · exact lv_neT c_22 (by decide)
    · exact lv_neT c_25 (by decide)
    · exact lv_neT c_28 (by decide)
    · exact lv_neT c_31 (by decide)
    · exact lv_neT c_34 (by decide)
    · exact lv_neT c_35 (by decide)
    · exact lv_neT c_36 (by decide)
    · exact lv_neT c_37 (by decide)
    · exact lv_neT c_38 (by decide)
  refine lv_iload_n hx hb dL_act_255 rfl (lv_at hl 3 rfl) ?_
  refine lv_iconst (v := (2 : Int32)) hx hb dL_act_256 (by decide) ?_
  refine lv_irem hx hb dL_act_257 (by decide) ?_
  refine lv_if_ne (tgt := 269) hx hb dL_act_258 (by decide) (fun c_41 => ?_) (fun c_41 => ?_)
  · replace hf := ite_f c_41 hf
    refine lv_aload_n hx hb dL_act_269 rfl (lv_at hl 1 rfl) ?_
    refine lv_iconst (v := (1 : Int32)) hx hb dL_act_270 (by decide) ?_
    obtain ⟨r_42, z0_11, hq_43, hf⟩ := bd2_some hf
    refine kA (As := [.ref (ad0 360), .int (1 : Int32)]) (rest := []) X (fun q h => h) hW0 hS (tI_tryRestore l D cy ad0 ba0 hl0 hq_43) (vx_cwSW (hh := [(0, 5, 6, 30), (0, 5, 10, 16)]) 2 X.2.2.2.2.2.1 gL_act_L_tryRestore rfl rfl rfl kdL_tryRestore.2 ⟨(Nat.le_of_ble_eq_true rfl), (Nat.le_of_ble_eq_true rfl)⟩) rfl rfl hl.1 (Nat.le_of_ble_eq_true rfl) ⟨by show _ ≤ 2; omega, by show _ ≤ 12; omega⟩ dL_act_271 (fun H locs hW0 hS hz hk => ?_)
    clear hz hk
    cases Option.some.inj hf
    exact eK X hW0 hS rfl (by omega) (by omega) dL_act_274
  · replace hf := ite_t c_41 hf
    refine lv_aload_n hx hb dL_act_261 rfl (lv_at hl 1 rfl) ?_
    refine lv_iconst (v := (1 : Int32)) hx hb dL_act_262 (by decide) ?_
    obtain ⟨r_44, z0_12, hq_45, hf⟩ := bd2_some hf
    refine kA (As := [.ref (ad0 360), .int (1 : Int32)]) (rest := []) X (fun q h => h) hW0 hS (tI_trySave l D cy ad0 ba0 hl0 hq_45) (vx_cwSW (hh := [(0, 5, 6, 30)]) 2 X.2.2.2.2.2.1 gL_act_L_trySave rfl rfl rfl kdL_trySave.2 ⟨(Nat.le_of_ble_eq_true rfl), (Nat.le_of_ble_eq_true rfl)⟩) rfl rfl hl.1 (Nat.le_of_ble_eq_true rfl) ⟨by show _ ≤ 2; omega, by show _ ≤ 12; omega⟩ dL_act_263 (fun H locs hW0 hS hz hk => ?_)
    clear hz hk
    refine lv_goto (tgt := 274) hx hb dL_act_266 (by decide) ?_
    cases Option.some.inj hf
    exact eK X hW0 hS rfl (by omega) (by omega) dL_act_274
set_option maxRecDepth 100000 in
set_option maxHeartbeats 4000000 in
theorem bL_act_17 {p : Program} {l : Launch} {e : Env} {s : State} {m : MethodId} {args : Array Value} {below : List Frame} {meth : Method} {c : Code} {D : va_G} {cy : Nat → ClassId} {ad0 : Nat → Nat} {ba0 : Nat → Prop} {x1 : Int32} {x2 : Int32} {res : (Int32 × aS)} (X : teC wsL_act RL cL_act 6 (some .int) D cy ba0 p s m args meth c) (hl0 : l.stackTraces = false) : ∀ (z0 : aS) (v3 : Int32) (y0 : Int32) (H : Heap) (locs : List Loc) (ls : Array Slot) (ce sl : Nat), ce + (1) ≤ 2 → sl + (6) ≤ 12 → aR D cy ad0 ba0 z0 H → va_S ba0 s.heap H locs → lv_has ls 6 [(0, .ref (ad0 360)), (1, .int x1), (2, .int x2), (3, .int v3)] → hL_act_17 x1 x2 z0 v3 y0 = some res → W p l e (headSpec wsL_act rmL_act).room s m args below meth c H locs ce sl (MQ below (va_Qi (fun a (_ : Unit) => a = res.1) (fun _ t => (aR D cy ad0 ba0 res.2) t.heap) ba0) args s 2 12 ba0) (F0 m 17 ls [.int y0]) := by
  have hx := X.1
  have hb := X.2.1
  have hown := X.2.2.2.2.1
  intro z0 v3 y0 H locs ls ce sl hb1_ hb2_ hW0 hS hl hf
  unfold hL_act_17 at hf
  refine lv_istore (lv' := [(4, .int y0), (0, .ref (ad0 360)), (1, .int x1), (2, .int x2), (3, .int v3)]) hx hb dL_act_17 hl (by decide) rfl (fun ls hl => ?_)
  refine lv_iload_n hx hb dL_act_19 rfl (lv_at hl 4 rfl) ?_
  refine lv_if_ne (tgt := 27) hx hb dL_act_20 (by decide) (fun c_3 => ?_) (fun c_3 => ?_)
  · replace hf := ite_f c_3 hf
    refine lv_iload_n hx hb dL_act_27 rfl (lv_at hl 3 rfl) ?_
    refine lv_bipush (v := (16 : Int32)) hx hb dL_act_28 (by decide) ?_
    refine lv_idiv hx hb dL_act_30 (by decide) ?_
    refine lv_iload_n hx hb dL_act_31 rfl (lv_at hl 4 rfl) ?_
    obtain ⟨h_4, hf⟩ := chk_some hf
    refine lv_irem hx hb dL_act_32 (of_decide_eq_true h_4) ?_
    exact bL_act_33 (x1 := x1) (x2 := x2) X hl0 z0 v3 y0 ((x2 / (16 : Int32)) - (x2 / (16 : Int32)) / v3 * v3) _ _ _ _ _ (by omega) (by omega) hW0 hS (lv_sub hl [1, 2, 3, 4, 0] rfl) hf
  · replace hf := ite_t c_3 hf
    refine lv_iconst (v := (0 : Int32)) hx hb dL_act_23 (by decide) ?_
    refine lv_goto (tgt := 33) hx hb dL_act_24 (by decide) ?_
    exact bL_act_33 (x1 := x1) (x2 := x2) X hl0 z0 v3 y0 (0 : Int32) _ _ _ _ _ (by omega) (by omega) hW0 hS (lv_sub hl [1, 2, 3, 4, 0] rfl) hf
set_option maxRecDepth 100000 in
set_option maxHeartbeats 4000000 in
theorem bL_act_0 {p : Program} {l : Launch} {e : Env} {s : State} {m : MethodId} {args : Array Value} {below : List Frame} {meth : Method} {c : Code} {D : va_G} {cy : Nat → ClassId} {ad0 : Nat → Nat} {ba0 : Nat → Prop} {x1 : Int32} {x2 : Int32} {res : (Int32 × aS)} (X : teC wsL_act RL cL_act 6 (some .int) D cy ba0 p s m args meth c) (hl0 : l.stackTraces = false) : ∀ (z0 : aS) (H : Heap) (locs : List Loc) (ls : Array Slot) (ce sl : Nat), ce + (2) ≤ 2 → sl + (12) ≤ 12 → aR D cy ad0 ba0 z0 H → va_S ba0 s.heap H locs → lv_has ls 6 [(0, .ref (ad0 360)), (1, .int x1), (2, .int x2)] → hL_act x1 x2 z0 = some res → W p l e (headSpec wsL_act rmL_act).room s m args below meth c H locs ce sl (MQ below (va_Qi (fun a (_ : Unit) => a = res.1) (fun _ t => (aR D cy ad0 ba0 res.2) t.heap) ba0) args s 2 12 ba0) (F0 m 0 ls []) := by
  have hx := X.1
  have hb := X.2.1
  have hown := X.2.2.2.2.1
  intro z0 H locs ls ce sl hb1_ hb2_ hW0 hS hl hf
  unfold hL_act at hf
  refine lv_aload_n hx hb dL_act_0 rfl (lv_at hl 0 rfl) ?_
  refine lv_iconst (v := (0 : Int32)) hx hb dL_act_1 (by decide) ?_
  refine kA (As := [.ref (ad0 360), .int (0 : Int32)]) (rest := []) X (fun q h => h) hW0 hS (tI_tryAbout l D cy ad0 ba0 hl0 z0 (0 : Int32)) (vx_cwSW (hh := [(0, 5, 6, 13)]) 2 X.2.2.2.2.2.1 gL_act_L_tryAbout rfl rfl rfl kdL_tryAbout.2 ⟨(Nat.le_of_ble_eq_true rfl), (Nat.le_of_ble_eq_true rfl)⟩) rfl rfl hl.1 (Nat.le_of_ble_eq_true rfl) ⟨by show _ ≤ 2; omega, by show _ ≤ 12; omega⟩ dL_act_2 (fun H locs hW0 hS hz hk => ?_)
  clear hz hk
  refine lv_istore_n (lv' := [(3, .int (A_tryAbout z0 (0 : Int32))), (0, .ref (ad0 360)), (1, .int x1), (2, .int x2)]) hx hb dL_act_5 rfl hl (by decide) rfl (fun ls hl => ?_)
  refine lv_iload_n hx hb dL_act_6 rfl (lv_at hl 0 rfl) ?_
  refine lv_if_ne (tgt := 14) hx hb dL_act_7 (by decide) (fun c_1 => ?_) (fun c_1 => ?_)
  · replace hf := ite_f c_1 hf
    refine lv_iload_n hx hb dL_act_14 rfl (lv_at hl 3 rfl) ?_
    refine lv_iload_n hx hb dL_act_15 rfl (lv_at hl 0 rfl) ?_
    obtain ⟨h_2, hf⟩ := chk_some hf
    refine lv_irem hx hb dL_act_16 (of_decide_eq_true h_2) ?_
    exact bL_act_17 (x1 := x1) (x2 := x2) X hl0 z0 (A_tryAbout z0 (0 : Int32)) (x2 - x2 / (A_tryAbout z0 (0 : Int32)) * (A_tryAbout z0 (0 : Int32))) _ _ _ _ _ (by omega) (by omega) hW0 hS (lv_sub hl [1, 2, 3, 0] rfl) hf
  · replace hf := ite_t c_1 hf
    refine lv_iconst (v := (0 : Int32)) hx hb dL_act_10 (by decide) ?_
    refine lv_goto (tgt := 17) hx hb dL_act_11 (by decide) ?_
    exact bL_act_17 (x1 := x1) (x2 := x2) X hl0 z0 (A_tryAbout z0 (0 : Int32)) (0 : Int32) _ _ _ _ _ (by omega) (by omega) hW0 hS (lv_sub hl [1, 2, 3, 0] rfl) hf
theorem zcL_act (l : Launch) (D : va_G) (cy : Nat → ClassId) (ad0 : Nat → Nat) (ba0 : Nat → Prop) (hl0 : l.stackTraces = false) {z0 : aS} {x1 : Int32} {x2 : Int32} (res : (Int32 × aS)) (hf : hL_act x1 x2 z0 = some res) : aJ l yL_act wsL_act rmL_act 2 12 D cy ba0 (aR D cy ad0 ba0 z0) false 0 0 (fun _ => 0) [.ref (ad0 360), .int x1, .int x2] res.1 (aR D cy ad0 ba0 res.2) :=
  a_of (by decide) rfl (Nat.le_of_ble_eq_true rfl) (fun p e s m below meth c ls X hW hX hS hl => bL_act_0 (x1 := x1) (x2 := x2) X hl0 z0 _ _ _ 0 0 (Nat.le_of_ble_eq_true rfl) (Nat.le_of_ble_eq_true rfl) hW hS hl hf)
