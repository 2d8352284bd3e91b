abbrev rmL_lead : Room := { frames := 9, cells := 3, slots := 18, locals := 157 }
theorem kdL_lead : yL_lead.cls = RL ∧ yL_lead.cls ≠ "java/lang/invoke/MethodHandle" ∧ yL_lead.cls ≠ "java/lang/invoke/VarHandle" ∧ (parseMethodDescriptor yL_lead.desc).map (fun d => d.parameters.length) = some 3 := by decide +kernel
set_option maxRecDepth 100000 in
set_option maxHeartbeats 4000000 in
theorem bL_lead_0 {p : Program} {l : Launch} {e : Env} {s : State} {m : MethodId} {args : Array Value} {below : List Frame} {meth : Method} {c : Code} {D : va_G} {cy : Nat → ClassId} {ad0 : Nat → Nat} {ba0 : Nat → Prop} {z0 : aS} {x1 : Int32} {x2 : Int32} {res : Int32} (X : teC wsL_lead RL cL_lead 4 (some .int) D cy ba0 p s m args meth c) (hl0 : l.stackTraces = false) : ∀ (H : Heap) (locs : List Loc) (ls : Array Slot) (ce sl : Nat), ce + (3) ≤ 3 → sl + (18) ≤ 18 → aR D cy ad0 ba0 z0 H → va_S ba0 s.heap H locs → lv_has ls 4 [(0, .ref (ad0 360)), (1, .int x1), (2, .int x2)] → hL_lead z0 x1 x2 = some res → W p l e (headSpec wsL_lead rmL_lead).room s m args below meth c H locs ce sl (MQ below (va_Qi (fun a (_ : Unit) => a = res) (fun _ t => (aR D cy ad0 ba0 z0) t.heap) ba0) args s 3 18 ba0) (F0 m 0 ls []) := by
  have hx := X.1
  have hb := X.2.1
  have hown := X.2.2.2.2.1
  intro H locs ls ce sl hb1_ hb2_ hW0 hS hl hf
  unfold hL_lead at hf
  refine lv_aload_n hx hb dL_lead_0 rfl (lv_at hl 0 rfl) ?_
  refine lv_iload_n hx hb dL_lead_1 rfl (lv_at hl 1 rfl) ?_
  refine lv_iconst (v := (4 : Int32)) hx hb dL_lead_2 (by decide) ?_
  refine kA (As := [.ref (ad0 360), .int x1, .int (4 : Int32)]) (rest := []) X (fun q h => h) hW0 hS (tI_tryMember l D cy ad0 ba0 hl0 z0 x1 (4 : Int32)) (vx_cwSW (hh := [(0, 6, 7, 30), (0, 6, 11, 13)]) 3 X.2.2.2.2.2.1 gL_lead_L_tryMember rfl rfl rfl kdL_tryMember.2 ⟨(Nat.le_of_ble_eq_true rfl), (Nat.le_of_ble_eq_true rfl)⟩) rfl rfl hl.1 (Nat.le_of_ble_eq_true rfl) ⟨by show _ ≤ 3; omega, by show _ ≤ 18; omega⟩ dL_lead_3 (fun H locs hW0 hS hz hk => ?_)
  clear hz hk
  refine lv_istore_n (lv' := [(3, .int (A_tryMember z0 x1 (4 : Int32))), (0, .ref (ad0 360)), (1, .int x1), (2, .int x2)]) hx hb dL_lead_6 rfl hl (by decide) rfl (fun ls hl => ?_)
  refine lv_aload_n hx hb dL_lead_7 rfl (lv_at hl 1 rfl) ?_
  refine lv_iload_n hx hb dL_lead_8 rfl (lv_at hl 3 rfl) ?_
  refine lv_iload_n hx hb dL_lead_9 rfl (lv_at hl 0 rfl) ?_
  refine kA (As := [.ref (ad0 360), .int x2, .int (A_tryMember z0 x1 (4 : Int32))]) (rest := []) X (fun q h => h) hW0 hS (tI_tryMember l D cy ad0 ba0 hl0 z0 x2 (A_tryMember z0 x1 (4 : Int32))) (vx_cwSW (hh := [(0, 6, 7, 30), (0, 6, 11, 13)]) 3 X.2.2.2.2.2.1 gL_lead_L_tryMember rfl rfl rfl kdL_tryMember.2 ⟨(Nat.le_of_ble_eq_true rfl), (Nat.le_of_ble_eq_true rfl)⟩) rfl rfl hl.1 (Nat.le_of_ble_eq_true rfl) ⟨by show _ ≤ 3; omega, by show _ ≤ 18; omega⟩ dL_lead_10 (fun H locs hW0 hS hz hk => ?_)
  clear hz hk
  refine lv_aload_n hx hb dL_lead_13 rfl (lv_at hl 1 rfl) ?_
  refine lv_iload_n hx hb dL_lead_14 rfl (lv_at hl 2 rfl) ?_
  refine lv_iload_n hx hb dL_lead_15 rfl (lv_at hl 0 rfl) ?_
  refine kA (As := [.ref (ad0 360), .int x1, .int (A_tryMember z0 x1 (4 : Int32))]) (rest := [.int (A_tryMember z0 x2 (A_tryMember z0 x1 (4 : Int32)))]) X (fun q h => h) hW0 hS (tI_tryMember l D cy ad0 ba0 hl0 z0 x1 (A_tryMember z0 x1 (4 : Int32))) (vx_cwSW (hh := [(0, 6, 7, 30), (0, 6, 11, 13)]) 3 X.2.2.2.2.2.1 gL_lead_L_tryMember rfl rfl rfl kdL_tryMember.2 ⟨(Nat.le_of_ble_eq_true rfl), (Nat.le_of_ble_eq_true rfl)⟩) rfl rfl hl.1 (Nat.le_of_ble_eq_true rfl) ⟨by show _ ≤ 3; omega, by show _ ≤ 18; omega⟩ dL_lead_16 (fun H locs hW0 hS hz hk => ?_)
  clear hz hk
  refine lv_isub hx hb dL_lead_19 ?_
  cases Option.some.inj hf
  exact eK (v := ((A_tryMember z0 x2 (A_tryMember z0 x1 (4 : Int32))) - (A_tryMember z0 x1 (A_tryMember z0 x1 (4 : Int32))))) X hW0 hS rfl (by omega) (by omega) dL_lead_20
theorem zcL_lead (l : Launch) (D : va_G) (cy : Nat → ClassId) (ad0 : Nat → Nat) (ba0 : Nat → Prop) (hl0 : l.stackTraces = false) {z0 : aS} {x1 : Int32} {x2 : Int32} (res : Int32) (hf : hL_lead z0 x1 x2 = some res) : aJ l yL_lead wsL_lead rmL_lead 3 18 D cy ba0 (aR D cy ad0 ba0 z0) false 0 0 (fun _ => 0) [.ref (ad0 360), .int x1, .int x2] res (aR D cy ad0 ba0 z0) :=
  a_of (by decide) rfl (Nat.le_of_ble_eq_true rfl) (fun p e s m below meth c ls X hW hX hS hl => bL_lead_0 (z0 := z0) (x1 := x1) (x2 := x2) X hl0 _ _ _ 0 0 (Nat.le_of_ble_eq_true rfl) (Nat.le_of_ble_eq_true rfl) hW hS hl hf)
