theorem wL_law_18 : Cond.constant RL 18 (-99003) ∈ wsL_law := by decide +kernel
set_option maxRecDepth 100000 in
set_option maxHeartbeats 4000000 in
theorem bL_law_349 {p : Program} {l : Launch} {e : Env} {s : State} {m : MethodId} {below : List Frame} {meth : Method} {c : Code} {D : va_G} {cy : Nat → ClassId} {ad0 : Nat → Nat} {ba0 : Nat → Prop} {ad1 : Nat → Nat} {ba1 : Nat → Prop} {b : Nat} {L : Nat} {xs : Nat → Int32} (X : teC wsL_law RL cL_law 9 ret D cy (fun q => s.heap.size ≤ q) p s m #[Value.ref b] meth c) (hl0 : l.stackTraces = false) (hdj : ∀ q, ba0 q → ¬ ba1 q) (hX : aX true b L xs s s.heap) (hbA : ¬ (fun q => s.heap.size ≤ q) b) (hb0 : ∀ q, ba0 q → s.heap.size ≤ q) (hb1 : ∀ q, ba1 q → s.heap.size ≤ q) {n81 : Nat} {q81 : aS → aS → Int32 → Int32 → Option Int32} (hq81 : ∀ (z0 : aS) (z1 : aS) (v3 : Int32) (v4 : Int32) (H : Heap) (locs : List Loc) (ls : Array Slot) (ce sl : Nat), 0 + (165698 * n81 + ce) ≤ 714853 → 0 + (994942 * n81 + sl) ≤ 6957064 → aR D cy ad0 ba0 z0 H → aR D cy ad1 ba1 z1 H → va_S (fun q => s.heap.size ≤ q) s.heap H locs → lv_has ls 9 [(0, .ref b), (1, .ref (ad0 360)), (2, .ref (ad1 360)), (3, .int v3), (4, .int v4)] → q81 z0 z1 v3 v4 = some 1 → W p l e room_1 s m #[Value.ref b] below meth c H locs ce sl (lw_Z below #[Value.ref b] s) (F0 m 81 ls [])) {n136 : Nat} {q136 : aS → aS → Int32 → Int32 → Int32 → Option Int32} (hq136 : ∀ (z0 : aS) (z1 : aS) (v3 : Int32) (v4 : Int32) (v5 : Int32) (H : Heap) (locs : List Loc) (ls : Array Slot) (ce sl : Nat), 0 + (165698 * n81 + 12492 * n136 + ce) ≤ 714853 → 0 + (994942 * n81 + 75010 * n136 + sl) ≤ 6957064 → aR D cy ad0 ba0 z0 H → aR D cy ad1 ba1 z1 H → va_S (fun q => s.heap.size ≤ q) s.heap H locs → lv_has ls 9 [(0, .ref b), (1, .ref (ad0 360)), (2, .ref (ad1 360)), (3, .int v3), (4, .int v4), (5, .int v5)] → q136 z0 z1 v3 v4 v5 = some 1 → W p l e room_1 s m #[Value.ref b] below meth c H locs ce sl (lw_Z below #[Value.ref b] s) (F0 m 136 ls [])) : ∀ (z0 : aS) (z1 : aS) (v4 : Int32) (v5 : Int32) (H : Heap) (locs : List Loc) (ls : Array Slot) (ce sl : Nat), 0 + (165698 * n81 + 12492 * n136 + ce) ≤ 714853 → 0 + (994942 * n81 + 75010 * n136 + sl) ≤ 6957064 → aR D cy ad0 ba0 z0 H → aR D cy ad1 ba1 z1 H → va_S (fun q => s.heap.size ≤ q) s.heap H locs → lv_has ls 9 [(0, .ref b), (1, .ref (ad0 360)), (2, .ref (ad1 360)), (4, .int v4), (5, .int v5)] → hL_law_349 L xs q81 q136 z0 z1 v4 v5 = some 1 → W p l e room_1 s m #[Value.ref b] below meth c H locs ce sl (lw_Z below #[Value.ref b] s) (F0 m 349 ls []) := by
  have hx := X.1
  have hb := X.2.1
  have hown := X.2.2.2.2.1
  intro z0 z1 v4 v5 H locs ls ce sl hb1_ hb2_ hW0 hW1 hS hl hf
  unfold hL_law_349 at hf
  refine lv_iconst (v := (0 : Int32)) hx hb dL_law_349 (by decide) ?_
  refine lv_istore_n (lv' := [(3, .int (0 : Int32)), (0, .ref b), (1, .ref (ad0 360)), (2, .ref (ad1 360)), (4, .int v4), (5, .int v5)]) hx hb dL_law_350 rfl hl (by decide) rfl (fun ls hl => ?_)
  refine lv_iinc (v := (v5 + (1 : Int32))) (lv' := [(5, .int (v5 + (1 : Int32))), (3, .int (0 : Int32)), (0, .ref b), (1, .ref (ad0 360)), (2, .ref (ad1 360)), (4, .int v4)]) hx hb dL_law_351 hl (k := 5) rfl rfl (by decide) rfl (fun ls hl => ?_)
  refine lv_goto (tgt := 136) hx hb dL_law_354 (by decide) ?_
  exact hq136 z0 z1 (0 : Int32) v4 (v5 + (1 : Int32)) _ _ _ _ _ (by omega) (by omega) hW0 hW1 hS (lv_sub hl [2, 3, 4, 1, 5, 0] rfl) hf
set_option maxRecDepth 100000 in
set_option maxHeartbeats 4000000 in
theorem bL_law_231 {p : Program} {l : Launch} {e : Env} {s : State} {m : MethodId} {below : List Frame} {meth : Method} {c : Code} {D : va_G} {cy : Nat → ClassId} {ad0 : Nat → Nat} {ba0 : Nat → Prop} {ad1 : Nat → Nat} {ba1 : Nat → Prop} {b : Nat} {L : Nat} {xs : Nat → Int32} (X : teC wsL_law RL cL_law 9 ret D cy (fun q => s.heap.size ≤ q) p s m #[Value.ref b] meth c) (hl0 : l.stackTraces = false) (hdj : ∀ q, ba0 q → ¬ ba1 q) (hX : aX true b L xs s s.heap) (hbA : ¬ (fun q => s.heap.size ≤ q) b) (hb0 : ∀ q, ba0 q → s.heap.size ≤ q) (hb1 : ∀ q, ba1 q → s.heap.size ≤ q) {n81 : Nat} {q81 : aS → aS → Int32 → Int32 → Option Int32} (hq81 : ∀ (z0 : aS) (z1 : aS) (v3 : Int32) (v4 : Int32) (H : Heap) (locs : List Loc) (ls : Array Slot) (ce sl : Nat), 0 + (165698 * n81 + ce) ≤ 714853 → 0 + (994942 * n81 + sl) ≤ 6957064 → aR D cy ad0 ba0 z0 H → aR D cy ad1 ba1 z1 H → va_S (fun q => s.heap.size ≤ q) s.heap H locs → lv_has ls 9 [(0, .ref b), (1, .ref (ad0 360)), (2, .ref (ad1 360)), (3, .int v3), (4, .int v4)] → q81 z0 z1 v3 v4 = some 1 → W p l e room_1 s m #[Value.ref b] below meth c H locs ce sl (lw_Z below #[Value.ref b] s) (F0 m 81 ls [])) {n136 : Nat} {q136 : aS → aS → Int32 → Int32 → Int32 → Option Int32} (hq136 : ∀ (z0 : aS) (z1 : aS) (v3 : Int32) (v4 : Int32) (v5 : Int32) (H : Heap) (locs : List Loc) (ls : Array Slot) (ce sl : Nat), 0 + (165698 * n81 + 12492 * n136 + ce) ≤ 714853 → 0 + (994942 * n81 + 75010 * n136 + sl) ≤ 6957064 → aR D cy ad0 ba0 z0 H → aR D cy ad1 ba1 z1 H → va_S (fun q => s.heap.size ≤ q) s.heap H locs → lv_has ls 9 [(0, .ref b), (1, .ref (ad0 360)), (2, .ref (ad1 360)), (3, .int v3), (4, .int v4), (5, .int v5)] → q136 z0 z1 v3 v4 v5 = some 1 → W p l e room_1 s m #[Value.ref b] below meth c H locs ce sl (lw_Z below #[Value.ref b] s) (F0 m 136 ls [])) : ∀ (z0 : aS) (z1 : aS) (v4 : Int32) (v5 : Int32) (v6 : Int32) (v7 : Int32) (y0 : Int32) (H : Heap) (locs : List Loc) (ls : Array Slot) (ce sl : Nat), 9379 + (165698 * n81 + 12492 * n136 + ce) ≤ 714853 → 56332 + (994942 * n81 + 75010 * n136 + sl) ≤ 6957064 → aR D cy ad0 ba0 z0 H → aR D cy ad1 ba1 z1 H → va_S (fun q => s.heap.size ≤ q) s.heap H locs → lv_has ls 9 [(0, .ref b), (1, .ref (ad0 360)), (2, .ref (ad1 360)), (4, .int v4), (5, .int v5), (6, .int v6), (7, .int v7)] → hL_law_231 L xs q81 q136 z0 z1 v4 v5 v6 v7 y0 = some 1 → W p l e room_1 s m #[Value.ref b] below meth c H locs ce sl (lw_Z below #[Value.ref b] s) (F0 m 231 ls [.int y0]) := by
  have hx := X.1
  have hb := X.2.1
  have hown := X.2.2.2.2.1
  intro z0 z1 v4 v5 v6 v7 y0 H locs ls ce sl hb1_ hb2_ hW0 hW1 hS hl hf
  unfold hL_law_231 at hf
  refine lv_istore_n (lv' := [(3, .int y0), (0, .ref b), (1, .ref (ad0 360)), (2, .ref (ad1 360)), (4, .int v4), (5, .int v5), (6, .int v6), (7, .int v7)]) hx hb dL_law_231 rfl hl (by decide) rfl (fun ls hl => ?_)
  refine lv_iload hx hb dL_law_232 (lv_at hl 5 rfl) ?_
  refine lv_iconst (v := (4 : Int32)) hx hb dL_law_234 (by decide) ?_
  refine lv_irem hx hb dL_law_235 (by decide) ?_
  refine lv_iconst (v := (3 : Int32)) hx hb dL_law_236 (by decide) ?_
  refine lv_icmp_ne (tgt := 351) hx hb dL_law_237 (by decide) (fun c_50 => ?_) (fun c_50 => ?_)
  · replace hf := ite_f c_50 hf
    refine lv_iinc (v := (v5 + (1 : Int32))) (lv' := [(5, .int (v5 + (1 : Int32))), (3, .int y0), (0, .ref b), (1, .ref (ad0 360)), (2, .ref (ad1 360)), (4, .int v4), (6, .int v6), (7, .int v7)]) hx hb dL_law_351 hl (k := 5) rfl rfl (by decide) rfl (fun ls hl => ?_)
    refine lv_goto (tgt := 136) hx hb dL_law_354 (by decide) ?_
    exact hq136 z0 z1 y0 v4 (v5 + (1 : Int32)) _ _ _ _ _ (by omega) (by omega) hW0 hW1 hS (lv_sub hl [2, 3, 4, 1, 5, 0] rfl) hf
  · replace hf := ite_t c_50 hf
    refine lv_iload_n hx hb dL_law_240 rfl (lv_at hl 0 rfl) ?_
    refine lv_if_eq (tgt := 351) hx hb dL_law_241 (by decide) (fun c_51 => ?_) (fun c_51 => ?_)
    · replace hf := ite_t c_51 hf
      refine lv_iinc (v := (v5 + (1 : Int32))) (lv' := [(5, .int (v5 + (1 : Int32))), (3, .int y0), (0, .ref b), (1, .ref (ad0 360)), (2, .ref (ad1 360)), (4, .int v4), (6, .int v6), (7, .int v7)]) hx hb dL_law_351 hl (k := 5) rfl rfl (by decide) rfl (fun ls hl => ?_)
      refine lv_goto (tgt := 136) hx hb dL_law_354 (by decide) ?_
      exact hq136 z0 z1 y0 v4 (v5 + (1 : Int32)) _ _ _ _ _ (by omega) (by omega) hW0 hW1 hS (lv_sub hl [2, 3, 4, 1, 5, 0] rfl) hf
    · replace hf := ite_f c_51 hf
      refine lv_aload_n hx hb dL_law_244 rfl (lv_at hl 2 rfl) ?_
      refine lv_iconst (v := (2 : Int32)) hx hb dL_law_245 (by decide) ?_
      refine kAf (As := [.ref (ad0 360), .int (2 : Int32)]) (rest := []) X (fun q h => hb0 q h) hW0 hS (tI_tryAbout l D cy ad0 ba0 hl0 z0 (2 : Int32)) (vx_cwSW (hh := [(0, 5, 6, 13)]) 2 X.2.2.2.2.2.1 gL_law_L_tryAbout rfl rfl rfl kdL_tryAbout.2 ⟨(Nat.le_of_ble_eq_true rfl), (Nat.le_of_ble_eq_true rfl)⟩) rfl rfl hl.1 (Nat.le_of_ble_eq_true rfl) ⟨by show _ ≤ 714853; omega, by show _ ≤ 6957064; omega⟩ dL_law_246 (fun H locs hW0 hS hz hk => ?_)
      replace hW1 := aR_kept hW1 (fun q h1 h2 => hk q h1 (fun h => hdj q h h2))
      clear hz hk
      refine lv_istore (lv' := [(8, .int (A_tryAbout z0 (2 : Int32))), (3, .int y0), (0, .ref b), (1, .ref (ad0 360)), (2, .ref (ad1 360)), (4, .int v4), (5, .int v5), (6, .int v6), (7, .int v7)]) hx hb dL_law_249 hl (by decide) rfl (fun ls hl => ?_)
      refine lv_aload_n hx hb dL_law_251 rfl (lv_at hl 3 rfl) ?_
      refine lv_iload hx hb dL_law_252 (lv_at hl 7 rfl) ?_
      obtain ⟨r_52, hq_53, hf⟩ := bd1_some hf
      refine kBf (As := [.ref (ad0 360), .int v6]) (rest := []) X (fun q h => hb0 q h) hW0 aX_no hS (zcL_scripts l D cy ad0 ba0 hl0 _ hq_53) (va_cwS 2 X.2.2.2.2.2.1 gL_law_L_scripts rfl rfl rfl kdL_scripts.2 ⟨(Nat.le_of_ble_eq_true rfl), (Nat.le_of_ble_eq_true rfl)⟩) rfl rfl hl.1 (Nat.le_of_ble_eq_true rfl) ⟨by show _ ≤ 714853; omega, by show _ ≤ 6957064; omega⟩ dL_law_254 (fun H locs hW0 hS hz hk => ?_)
      replace hW1 := aR_kept hW1 (fun q h1 h2 => hk q h1 (fun h => hdj q h h2))
      clear hz hk
      refine lv_if_eq (tgt := 349) hx hb dL_law_257 (by decide) (fun c_54 => ?_) (fun c_54 => ?_)
      · replace hf := ite_t c_54 hf
        exact bL_law_349 (L := L) (xs := xs) X hl0 hdj hX hbA hb0 hb1 hq81 hq136 z0 z1 v4 v5 _ _ _ _ _ (by omega) (by omega) hW0 hW1 hS (lv_sub hl [2, 3, 4, 5, 6] rfl) hf
      · replace hf := ite_f c_54 hf
        refine lv_aload_n hx hb dL_law_260 rfl (lv_at hl 4 rfl) ?_
        refine lv_iconst (v := (0 : Int32)) hx hb dL_law_261 (by decide) ?_
        obtain ⟨r_55, z1_9, hq_56, hf⟩ := bd2_some hf
        refine kAf (As := [.ref (ad1 360), .int (0 : Int32)]) (rest := []) X (fun q h => hb1 q h) hW1 hS (tI_trySave l D cy ad1 ba1 hl0 hq_56) (vx_cwSW (hh := [(0, 5, 6, 30)]) 2 X.2.2.2.2.2.1 gL_law_L_trySave rfl rfl rfl kdL_trySave.2 ⟨(Nat.le_of_ble_eq_true rfl), (Nat.le_of_ble_eq_true rfl)⟩) rfl rfl hl.1 (Nat.le_of_ble_eq_true rfl) ⟨by show _ ≤ 714853; omega, by show _ ≤ 6957064; omega⟩ dL_law_262 (fun H locs hW1 hS hz hk => ?_)
        replace hW0 := aR_kept hW0 (fun q h1 h2 => hk q h1 (hdj q h2))
        clear hz hk
        refine lv_iload hx hb dL_law_265 (lv_at hl 0 rfl) ?_
        refine lv_icmp_ne (tgt := 349) hx hb dL_law_267 (by decide) (fun c_57 => ?_) (fun c_57 => ?_)
        · replace hf := ite_f c_57 hf
          exact bL_law_349 (L := L) (xs := xs) X hl0 hdj hX hbA hb0 hb1 hq81 hq136 z0 z1_9 v4 v5 _ _ _ _ _ (by omega) (by omega) hW0 hW1 hS (lv_sub hl [2, 3, 4, 5, 6] rfl) hf
        · replace hf := ite_t c_57 hf
          refine lv_aload_n hx hb dL_law_270 rfl (lv_at hl 3 rfl) ?_
          refine lv_iconst (v := (0 : Int32)) hx hb dL_law_271 (by decide) ?_
          obtain ⟨r_58, z0_10, hq_59, hf⟩ := bd2_some hf
          refine kAf (As := [.ref (ad0 360), .int (0 : Int32)]) (rest := []) X (fun q h => hb0 q h) hW0 hS (tI_trySave l D cy ad0 ba0 hl0 hq_59) (vx_cwSW (hh := [(0, 5, 6, 30)]) 2 X.2.2.2.2.2.1 gL_law_L_trySave rfl rfl rfl kdL_trySave.2 ⟨(Nat.le_of_ble_eq_true rfl), (Nat.le_of_ble_eq_true rfl)⟩) rfl rfl hl.1 (Nat.le_of_ble_eq_true rfl) ⟨by show _ ≤ 714853; omega, by show _ ≤ 6957064; omega⟩ dL_law_272 (fun H locs hW0 hS hz hk => ?_)
          replace hW1 := aR_kept hW1 (fun q h1 h2 => hk q h1 (fun h => hdj q h h2))
          clear hz hk
          refine lv_iload hx hb dL_law_275 (lv_at hl 0 rfl) ?_
          refine lv_icmp_ne (tgt := 349) hx hb dL_law_277 (by decide) (fun c_60 => ?_) (fun c_60 => ?_)
          · replace hf := ite_f c_60 hf
            exact bL_law_349 (L := L) (xs := xs) X hl0 hdj hX hbA hb0 hb1 hq81 hq136 z0_10 z1_9 v4 v5 _ _ _ _ _ (by omega) (by omega) hW0 hW1 hS (lv_sub hl [2, 3, 4, 5, 6] rfl) hf
          · replace hf := ite_t c_60 hf
            refine lv_aload_n hx hb dL_law_280 rfl (lv_at hl 3 rfl) ?_
            refine lv_iconst (v := (0 : Int32)) hx hb dL_law_281 (by decide) ?_
            obtain ⟨r_61, z0_11, hq_62, hf⟩ := bd2_some hf
            refine kAf (As := [.ref (ad0 360), .int (0 : Int32)]) (rest := []) X (fun q h => hb0 q h) hW0 hS (tI_tryRestore l D cy ad0 ba0 hl0 hq_62) (vx_cwSW (hh := [(0, 5, 6, 30), (0, 5, 10, 16)]) 2 X.2.2.2.2.2.1 gL_law_L_tryRestore rfl rfl rfl kdL_tryRestore.2 ⟨(Nat.le_of_ble_eq_true rfl), (Nat.le_of_ble_eq_true rfl)⟩) rfl rfl hl.1 (Nat.le_of_ble_eq_true rfl) ⟨by show _ ≤ 714853; omega, by show _ ≤ 6957064; omega⟩ dL_law_282 (fun H locs hW0 hS hz hk => ?_)
            replace hW1 := aR_kept hW1 (fun q h1 h2 => hk q h1 (fun h => hdj q h h2))
            clear hz hk
            refine lv_iload hx hb dL_law_285 (lv_at hl 0 rfl) ?_
            refine lv_icmp_ne (tgt := 349) hx hb dL_law_287 (by decide) (fun c_63 => ?_) (fun c_63 => ?_)
            · replace hf := ite_f c_63 hf
              exact bL_law_349 (L := L) (xs := xs) X hl0 hdj hX hbA hb0 hb1 hq81 hq136 z0_11 z1_9 v4 v5 _ _ _ _ _ (by omega) (by omega) hW0 hW1 hS (lv_sub hl [2, 3, 4, 5, 6] rfl) hf
            · replace hf := ite_t c_63 hf
              refine lv_aload_n hx hb dL_law_290 rfl (lv_at hl 3 rfl) ?_
              refine lv_iload hx hb dL_law_291 (lv_at hl 8 rfl) ?_
              obtain ⟨r_64, z0_12, hq_65, hf⟩ := bd2_some hf
              refine kBf (As := [.ref (ad0 360), .int v7]) (rest := []) X (fun q h => hb0 q h) hW0 aX_no hS (zcL_hands l D cy ad0 ba0 hl0 _ hq_65) (va_cwS 2 X.2.2.2.2.2.1 gL_law_L_hands rfl rfl rfl kdL_hands.2 ⟨(Nat.le_of_ble_eq_true rfl), (Nat.le_of_ble_eq_true rfl)⟩) rfl rfl hl.1 (Nat.le_of_ble_eq_true rfl) ⟨by show _ ≤ 714853; omega, by show _ ≤ 6957064; omega⟩ dL_law_293 (fun H locs hW0 hS hz hk => ?_)
              replace hW1 := aR_kept hW1 (fun q h1 h2 => hk q h1 (fun h => hdj q h h2))
              clear hz hk
              refine lv_if_eq (tgt := 349) hx hb dL_law_296 (by decide) (fun c_66 => ?_) (fun c_66 => ?_)
              · replace hf := ite_t c_66 hf
                exact bL_law_349 (L := L) (xs := xs) X hl0 hdj hX hbA hb0 hb1 hq81 hq136 z0_12 z1_9 v4 v5 _ _ _ _ _ (by omega) (by omega) hW0 hW1 hS (lv_sub hl [2, 3, 4, 5, 6] rfl) hf
              · replace hf := ite_f c_66 hf
                refine lv_aload_n hx hb dL_law_299 rfl (lv_at hl 3 rfl) ?_
                refine lv_iload hx hb dL_law_300 (lv_at hl 8 rfl) ?_
                obtain ⟨r_67, z0_13, hq_68, hf⟩ := bd2_some hf
                refine kBf (As := [.ref (ad0 360), .int v7]) (rest := []) X (fun q h => hb0 q h) hW0 aX_no hS (zcL_weeks l D cy ad0 ba0 hl0 _ hq_68) (va_cwS 2 X.2.2.2.2.2.1 gL_law_L_weeks rfl rfl rfl kdL_weeks.2 ⟨(Nat.le_of_ble_eq_true rfl), (Nat.le_of_ble_eq_true rfl)⟩) rfl rfl hl.1 (Nat.le_of_ble_eq_true rfl) ⟨by show _ ≤ 714853; omega, by show _ ≤ 6957064; omega⟩ dL_law_302 (fun H locs hW0 hS hz hk => ?_)
                replace hW1 := aR_kept hW1 (fun q h1 h2 => hk q h1 (fun h => hdj q h h2))
                clear hz hk
                refine lv_if_eq (tgt := 349) hx hb dL_law_305 (by decide) (fun c_69 => ?_) (fun c_69 => ?_)
                · replace hf := ite_t c_69 hf
                  exact bL_law_349 (L := L) (xs := xs) X hl0 hdj hX hbA hb0 hb1 hq81 hq136 z0_13 z1_9 v4 v5 _ _ _ _ _ (by omega) (by omega) hW0 hW1 hS (lv_sub hl [2, 3, 4, 5, 6] rfl) hf
                · replace hf := ite_f c_69 hf
                  refine lv_aload_n hx hb dL_law_308 rfl (lv_at hl 3 rfl) ?_
                  refine lv_iconst (v := (0 : Int32)) hx hb dL_law_309 (by decide) ?_
                  obtain ⟨r_70, z0_14, hq_71, hf⟩ := bd2_some hf
                  refine kAf (As := [.ref (ad0 360), .int (0 : Int32)]) (rest := []) X (fun q h => hb0 q h) hW0 hS (tI_tryRestore l D cy ad0 ba0 hl0 hq_71) (vx_cwSW (hh := [(0, 5, 6, 30), (0, 5, 10, 16)]) 2 X.2.2.2.2.2.1 gL_law_L_tryRestore rfl rfl rfl kdL_tryRestore.2 ⟨(Nat.le_of_ble_eq_true rfl), (Nat.le_of_ble_eq_true rfl)⟩) rfl rfl hl.1 (Nat.le_of_ble_eq_true rfl) ⟨by show _ ≤ 714853; omega, by show _ ≤ 6957064; omega⟩ dL_law_310 (fun H locs hW0 hS hz hk => ?_)
                  replace hW1 := aR_kept hW1 (fun q h1 h2 => hk q h1 (fun h => hdj q h h2))
                  clear hz hk
                  refine lv_iload hx hb dL_law_313 (lv_at hl 0 rfl) ?_
                  refine lv_icmp_ne (tgt := 349) hx hb dL_law_315 (by decide) (fun c_72 => ?_) (fun c_72 => ?_)
                  · replace hf := ite_f c_72 hf
                    exact bL_law_349 (L := L) (xs := xs) X hl0 hdj hX hbA hb0 hb1 hq81 hq136 z0_14 z1_9 v4 v5 _ _ _ _ _ (by omega) (by omega) hW0 hW1 hS (lv_sub hl [2, 3, 4, 5, 6] rfl) hf
                  · replace hf := ite_t c_72 hf
                    refine lv_aload_n hx hb dL_law_318 rfl (lv_at hl 4 rfl) ?_
                    refine lv_iconst (v := (0 : Int32)) hx hb dL_law_319 (by decide) ?_
                    obtain ⟨r_73, z1_15, hq_74, hf⟩ := bd2_some hf
                    refine kAf (As := [.ref (ad1 360), .int (0 : Int32)]) (rest := []) X (fun q h => hb1 q h) hW1 hS (tI_tryRestore l D cy ad1 ba1 hl0 hq_74) (vx_cwSW (hh := [(0, 5, 6, 30), (0, 5, 10, 16)]) 2 X.2.2.2.2.2.1 gL_law_L_tryRestore rfl rfl rfl kdL_tryRestore.2 ⟨(Nat.le_of_ble_eq_true rfl), (Nat.le_of_ble_eq_true rfl)⟩) rfl rfl hl.1 (Nat.le_of_ble_eq_true rfl) ⟨by show _ ≤ 714853; omega, by show _ ≤ 6957064; omega⟩ dL_law_320 (fun H locs hW1 hS hz hk => ?_)
                    replace hW0 := aR_kept hW0 (fun q h1 h2 => hk q h1 (hdj q h2))
                    clear hz hk
                    refine lv_iload hx hb dL_law_323 (lv_at hl 0 rfl) ?_
                    refine lv_icmp_ne (tgt := 349) hx hb dL_law_325 (by decide) (fun c_75 => ?_) (fun c_75 => ?_)
                    · replace hf := ite_f c_75 hf
                      exact bL_law_349 (L := L) (xs := xs) X hl0 hdj hX hbA hb0 hb1 hq81 hq136 z0_14 z1_15 v4 v5 _ _ _ _ _ (by omega) (by omega) hW0 hW1 hS (lv_sub hl [2, 3, 4, 5, 6] rfl) hf
                    · replace hf := ite_t c_75 hf
                      refine lv_aload_n hx hb dL_law_328 rfl (lv_at hl 3 rfl) ?_
                      obtain ⟨r_76, z0_16, hq_77, hf⟩ := bd2_some hf
                      refine kAf (As := [.ref (ad0 360)]) (rest := []) X (fun q h => hb0 q h) hW0 hS (tI_tryUndo l D cy ad0 ba0 hl0 hq_77) (vx_cwSW (hh := [(0, 4, 5, 16)]) 1 X.2.2.2.2.2.1 gL_law_L_tryUndo rfl rfl rfl kdL_tryUndo.2 ⟨(Nat.le_of_ble_eq_true rfl), (Nat.le_of_ble_eq_true rfl)⟩) rfl rfl hl.1 (Nat.le_of_ble_eq_true rfl) ⟨by show _ ≤ 714853; omega, by show _ ≤ 6957064; omega⟩ dL_law_329 (fun H locs hW0 hS hz hk => ?_)
                      replace hW1 := aR_kept hW1 (fun q h1 h2 => hk q h1 (fun h => hdj q h h2))
                      clear hz hk
                      refine lv_ldc (v := (-99003 : Int32)) hx hb hown (X.2.2.2.2.2.1 _ wL_law_18) dL_law_332 ?_
                      refine lv_icmp_ne (tgt := 349) hx hb dL_law_334 (by decide) (fun c_78 => ?_) (fun c_78 => ?_)
                      · replace hf := ite_f c_78 hf
                        exact bL_law_349 (L := L) (xs := xs) X hl0 hdj hX hbA hb0 hb1 hq81 hq136 z0_16 z1_15 v4 v5 _ _ _ _ _ (by omega) (by omega) hW0 hW1 hS (lv_sub hl [2, 3, 4, 5, 6] rfl) hf
                      · replace hf := ite_t c_78 hf
                        refine lv_aload_n hx hb dL_law_337 rfl (lv_at hl 3 rfl) ?_
                        refine lv_aload_n hx hb dL_law_338 rfl (lv_at hl 4 rfl) ?_
                        obtain ⟨r_79, hq_80, hf⟩ := bd1_some hf
                        refine kBf (As := [.ref (ad0 360), .ref (ad1 360)]) (rest := []) X (fun q h => h.elim (hb0 q) (hb1 q)) ⟨hW0, hW1⟩ aX_no hS (zcL_alike l D cy ad0 ba0 ad1 ba1 hl0 hdj _ hq_80) (va_cwS 2 X.2.2.2.2.2.1 gL_law_L_alike rfl rfl rfl kdL_alike.2 ⟨(Nat.le_of_ble_eq_true rfl), (Nat.le_of_ble_eq_true rfl)⟩) rfl rfl hl.1 (Nat.le_of_ble_eq_true rfl) ⟨by show _ ≤ 714853; omega, by show _ ≤ 6957064; omega⟩ dL_law_339 (fun H locs hWW hS hz hk => ?_)
                        obtain ⟨hW0, hW1⟩ := hWW
                        clear hz hk
                        refine lv_if_eq (tgt := 349) hx hb dL_law_342 (by decide) (fun c_81 => ?_) (fun c_81 => ?_)
                        · replace hf := ite_t c_81 hf
                          exact bL_law_349 (L := L) (xs := xs) X hl0 hdj hX hbA hb0 hb1 hq81 hq136 z0_16 z1_15 v4 v5 _ _ _ _ _ (by omega) (by omega) hW0 hW1 hS (lv_sub hl [2, 3, 4, 5, 6] rfl) hf
                        · replace hf := ite_f c_81 hf
                          refine lv_iconst (v := (1 : Int32)) hx hb dL_law_345 (by decide) ?_
                          refine lv_goto (tgt := 350) hx hb dL_law_346 (by decide) ?_
                          refine lv_istore_n (lv' := [(3, .int (1 : Int32)), (8, .int (A_tryAbout z0 (2 : Int32))), (0, .ref b), (1, .ref (ad0 360)), (2, .ref (ad1 360)), (4, .int v4), (5, .int v5), (6, .int v6), (7, .int v7)]) hx hb dL_law_350 rfl hl (by decide) rfl (fun ls hl => ?_)
                          refine lv_iinc (v := (v5 + (1 : Int32))) (lv' := [(5, .int (v5 + (1 : Int32))), (3, .int (1 : Int32)), (8, .int (A_tryAbout z0 (2 : Int32))), (0, .ref b), (1, .ref (ad0 360)), (2, .ref (ad1 360)), (4, .int v4), (6, .int v6), (7, .int v7)]) hx hb dL_law_351 hl (k := 6) rfl rfl (by decide) rfl (fun ls hl => ?_)
                          refine lv_goto (tgt := 136) hx hb dL_law_354 (by decide) ?_
                          exact hq136 z0_16 z1_15 (1 : Int32) v4 (v5 + (1 : Int32)) _ _ _ _ _ (by omega) (by omega) hW0 hW1 hS (lv_sub hl [3, 4, 5, 1, 6, 0] rfl) hf
set_option maxRecDepth 100000 in
set_option maxHeartbeats 4000000 in
theorem bL_law_136 {p : Program} {l : Launch} {e : Env} {s : State} {m : MethodId} {below : List Frame} {meth : Method} {c : Code} {D : va_G} {cy : Nat → ClassId} {ad0 : Nat → Nat} {ba0 : Nat → Prop} {ad1 : Nat → Nat} {ba1 : Nat → Prop} {b : Nat} {L : Nat} {xs : Nat → Int32} (X : teC wsL_law RL cL_law 9 ret D cy (fun q => s.heap.size ≤ q) p s m #[Value.ref b] meth c) (hl0 : l.stackTraces = false) (hdj : ∀ q, ba0 q → ¬ ba1 q) (hX : aX true b L xs s s.heap) (hbA : ¬ (fun q => s.heap.size ≤ q) b) (hb0 : ∀ q, ba0 q → s.heap.size ≤ q) (hb1 : ∀ q, ba1 q → s.heap.size ≤ q) {n81 : Nat} {q81 : aS → aS → Int32 → Int32 → Option Int32} (hq81 : ∀ (z0 : aS) (z1 : aS) (v3 : Int32) (v4 : Int32) (H : Heap) (locs : List Loc) (ls : Array Slot) (ce sl : Nat), 0 + (165698 * n81 + ce) ≤ 714853 → 0 + (994942 * n81 + sl) ≤ 6957064 → aR D cy ad0 ba0 z0 H → aR D cy ad1 ba1 z1 H → va_S (fun q => s.heap.size ≤ q) s.heap H locs → lv_has ls 9 [(0, .ref b), (1, .ref (ad0 360)), (2, .ref (ad1 360)), (3, .int v3), (4, .int v4)] → q81 z0 z1 v3 v4 = some 1 → W p l e room_1 s m #[Value.ref b] below meth c H locs ce sl (lw_Z below #[Value.ref b] s) (F0 m 81 ls [])) : ∀ (n : Nat), ∀ (z0 : aS) (z1 : aS) (v3 : Int32) (v4 : Int32) (v5 : Int32) (H : Heap) (locs : List Loc) (ls : Array Slot) (ce sl : Nat), 0 + (165698 * n81 + 12492 * n + ce) ≤ 714853 → 0 + (994942 * n81 + 75010 * n + sl) ≤ 6957064 → aR D cy ad0 ba0 z0 H → aR D cy ad1 ba1 z1 H → va_S (fun q => s.heap.size ≤ q) s.heap H locs → lv_has ls 9 [(0, .ref b), (1, .ref (ad0 360)), (2, .ref (ad1 360)), (3, .int v3), (4, .int v4), (5, .int v5)] → hL_law_136 L xs q81 n z0 z1 v3 v4 v5 = some 1 → W p l e room_1 s m #[Value.ref b] below meth c H locs ce sl (lw_Z below #[Value.ref b] s) (F0 m 136 ls []) := by
  have hx := X.1
  have hb := X.2.1
  have hown := X.2.2.2.2.1
  intro n
  induction n with
  | zero =>
    intro z0 z1 v3 v4 v5 H locs ls ce sl hb1_ hb2_ hW0 hW1 hS hl hf
    exact nomatch hf
  | succ n ih =>
    intro z0 z1 v3 v4 v5 H locs ls ce sl hb1_ hb2_ hW0 hW1 hS hl hf
    unfold hL_law_136 at hf
    refine lv_iload hx hb dL_law_136 (lv_at hl 5 rfl) ?_
    refine lv_bipush (v := (12 : Int32)) hx hb dL_law_138 (by decide) ?_
    refine lv_icmp_ge (tgt := 357) hx hb dL_law_140 (by decide) (fun c_30 => ?_) (fun c_30 => ?_)
    · replace hf := ite_t c_30 hf
      refine lv_iinc (v := (v4 + (1 : Int32))) (lv' := [(4, .int (v4 + (1 : Int32))), (0, .ref b), (1, .ref (ad0 360)), (2, .ref (ad1 360)), (3, .int v3), (5, .int v5)]) hx hb dL_law_357 hl (k := 4) rfl rfl (by decide) rfl (fun ls hl => ?_)
      refine lv_goto (tgt := 81) hx hb dL_law_360 (by decide) ?_
      exact hq81 z0 z1 v3 (v4 + (1 : Int32)) _ _ _ _ _ (by omega) (by omega) hW0 hW1 hS (lv_sub hl [1, 2, 3, 4, 0] rfl) hf
    · replace hf := ite_f c_30 hf
      refine lv_iload_n hx hb dL_law_143 rfl (lv_at hl 3 rfl) ?_
      refine lv_if_eq (tgt := 357) hx hb dL_law_144 (by decide) (fun c_31 => ?_) (fun c_31 => ?_)
      · replace hf := ite_t c_31 hf
        refine lv_iinc (v := (v4 + (1 : Int32))) (lv' := [(4, .int (v4 + (1 : Int32))), (0, .ref b), (1, .ref (ad0 360)), (2, .ref (ad1 360)), (3, .int v3), (5, .int v5)]) hx hb dL_law_357 hl (k := 4) rfl rfl (by decide) rfl (fun ls hl => ?_)
        refine lv_goto (tgt := 81) hx hb dL_law_360 (by decide) ?_
        exact hq81 z0 z1 v3 (v4 + (1 : Int32)) _ _ _ _ _ (by omega) (by omega) hW0 hW1 hS (lv_sub hl [1, 2, 3, 4, 0] rfl) hf
      · replace hf := ite_f c_31 hf
        refine lv_aload_n hx hb dL_law_147 rfl (lv_at hl 0 rfl) ?_
        refine lv_bipush (v := (40 : Int32)) hx hb dL_law_148 (by decide) ?_
        refine lv_iload hx hb dL_law_150 (lv_at hl 4 rfl) ?_
        refine lv_imul hx hb dL_law_152 ?_
        refine lv_bipush (v := (11 : Int32)) hx hb dL_law_153 (by decide) ?_
        refine lv_iadd hx hb dL_law_155 ?_
        refine lv_iconst (v := (2 : Int32)) hx hb dL_law_156 (by decide) ?_
        refine lv_iload hx hb dL_law_157 (lv_at hl 5 rfl) ?_
        refine lv_imul hx hb dL_law_159 ?_
        refine lv_iadd hx hb dL_law_160 ?_
        obtain ⟨r_32, hq_33, hf⟩ := bd1_some hf
        refine kBf (As := [.ref b, .int ((((40 : Int32) * v4) + (11 : Int32)) + ((2 : Int32) * v5))]) (rest := []) X (fun q h => h.elim) (Wd := fun _ => True) trivial (aX_S hX hbA hS) hS (zcL_number l D cy hl0 b L xs _ hq_33) (va_cwS 2 X.2.2.2.2.2.1 gL_law_L_number rfl rfl rfl kdL_number.2 ⟨(Nat.le_of_ble_eq_true rfl), (Nat.le_of_ble_eq_true rfl)⟩) rfl rfl hl.1 (Nat.le_of_ble_eq_true rfl) ⟨by show _ ≤ 714853; omega, by show _ ≤ 6957064; omega⟩ dL_law_161 (fun H locs hWW hS hz hk => ?_)
        replace hW0 := aR_kept hW0 (fun q h1 _ => hk q h1 (fun h => h))
        replace hW1 := aR_kept hW1 (fun q h1 _ => hk q h1 (fun h => h))
        clear hz hk
        refine lv_istore (lv' := [(6, .int r_32), (0, .ref b), (1, .ref (ad0 360)), (2, .ref (ad1 360)), (3, .int v3), (4, .int v4), (5, .int v5)]) hx hb dL_law_164 hl (by decide) rfl (fun ls hl => ?_)
        refine lv_aload_n hx hb dL_law_166 rfl (lv_at hl 1 rfl) ?_
        refine lv_bipush (v := (40 : Int32)) hx hb dL_law_167 (by decide) ?_
        refine lv_iload hx hb dL_law_169 (lv_at hl 5 rfl) ?_
        refine lv_imul hx hb dL_law_171 ?_
        refine lv_bipush (v := (12 : Int32)) hx hb dL_law_172 (by decide) ?_
        refine lv_iadd hx hb dL_law_174 ?_
        refine lv_iconst (v := (2 : Int32)) hx hb dL_law_175 (by decide) ?_
        refine lv_iload hx hb dL_law_176 (lv_at hl 6 rfl) ?_
        refine lv_imul hx hb dL_law_178 ?_
        refine lv_iadd hx hb dL_law_179 ?_
        obtain ⟨r_34, hq_35, hf⟩ := bd1_some hf
        refine kBf (As := [.ref b, .int ((((40 : Int32) * v4) + (12 : Int32)) + ((2 : Int32) * v5))]) (rest := []) X (fun q h => h.elim) (Wd := fun _ => True) trivial (aX_S hX hbA hS) hS (zcL_number l D cy hl0 b L xs _ hq_35) (va_cwS 2 X.2.2.2.2.2.1 gL_law_L_number rfl rfl rfl kdL_number.2 ⟨(Nat.le_of_ble_eq_true rfl), (Nat.le_of_ble_eq_true rfl)⟩) rfl rfl hl.1 (Nat.le_of_ble_eq_true rfl) ⟨by show _ ≤ 714853; omega, by show _ ≤ 6957064; omega⟩ dL_law_180 (fun H locs hWW hS hz hk => ?_)
        replace hW0 := aR_kept hW0 (fun q h1 _ => hk q h1 (fun h => h))
        replace hW1 := aR_kept hW1 (fun q h1 _ => hk q h1 (fun h => h))
        clear hz hk
        refine lv_istore (lv' := [(7, .int r_34), (6, .int r_32), (0, .ref b), (1, .ref (ad0 360)), (2, .ref (ad1 360)), (3, .int v3), (4, .int v4), (5, .int v5)]) hx hb dL_law_183 hl (by decide) rfl (fun ls hl => ?_)
        refine lv_aload_n hx hb dL_law_185 rfl (lv_at hl 3 rfl) ?_
        refine lv_iload hx hb dL_law_186 (lv_at hl 1 rfl) ?_
        refine lv_iload hx hb dL_law_188 (lv_at hl 0 rfl) ?_
        obtain ⟨r_36, z0_6, hq_37, hf⟩ := bd2_some hf
        refine kBf (As := [.ref (ad0 360), .int r_32, .int r_34]) (rest := []) X (fun q h => hb0 q h) hW0 aX_no hS (zcL_act l D cy ad0 ba0 hl0 _ hq_37) (va_cwS 3 X.2.2.2.2.2.1 gL_law_L_act rfl rfl rfl kdL_act.2 ⟨(Nat.le_of_ble_eq_true rfl), (Nat.le_of_ble_eq_true rfl)⟩) rfl rfl hl.1 (Nat.le_of_ble_eq_true rfl) ⟨by show _ ≤ 714853; omega, by show _ ≤ 6957064; omega⟩ dL_law_190 (fun H locs hW0 hS hz hk => ?_)
        replace hW1 := aR_kept hW1 (fun q h1 h2 => hk q h1 (fun h => hdj q h h2))
        clear hz hk
        refine lv_aload_n hx hb dL_law_193 rfl (lv_at hl 4 rfl) ?_
        refine lv_iload hx hb dL_law_194 (lv_at hl 1 rfl) ?_
        refine lv_iload hx hb dL_law_196 (lv_at hl 0 rfl) ?_
        obtain ⟨r_38, z1_7, hq_39, hf⟩ := bd2_some hf
        refine kBf (As := [.ref (ad1 360), .int r_32, .int r_34]) (rest := [.int r_36]) X (fun q h => hb1 q h) hW1 aX_no hS (zcL_act l D cy ad1 ba1 hl0 _ hq_39) (va_cwS 3 X.2.2.2.2.2.1 gL_law_L_act rfl rfl rfl kdL_act.2 ⟨(Nat.le_of_ble_eq_true rfl), (Nat.le_of_ble_eq_true rfl)⟩) rfl rfl hl.1 (Nat.le_of_ble_eq_true rfl) ⟨by show _ ≤ 714853; omega, by show _ ≤ 6957064; omega⟩ dL_law_198 (fun H locs hW1 hS hz hk => ?_)
        replace hW0 := aR_kept hW0 (fun q h1 h2 => hk q h1 (hdj q h2))
        clear hz hk
        refine lv_icmp_ne (tgt := 230) hx hb dL_law_201 (by decide) (fun c_40 => ?_) (fun c_40 => ?_)
        · replace hf := ite_f c_40 hf
          refine lv_iconst (v := (0 : Int32)) hx hb dL_law_230 (by decide) ?_
          exact bL_law_231 (L := L) (xs := xs) X hl0 hdj hX hbA hb0 hb1 hq81 ih z0_6 z1_7 v4 v5 r_32 r_34 (0 : Int32) _ _ _ _ _ (by omega) (by omega) hW0 hW1 hS (lv_sub hl [2, 3, 4, 6, 7, 1, 0] rfl) hf
        · replace hf := ite_t c_40 hf
          refine lv_aload_n hx hb dL_law_204 rfl (lv_at hl 4 rfl) ?_
          obtain ⟨r_41, z1_8, hq_42, hf⟩ := bd2_some hf
          refine kBf (As := [.ref (ad1 360)]) (rest := []) X (fun q h => hb1 q h) hW1 aX_no hS (zcL_refuses l D cy ad1 ba1 hl0 _ hq_42) (va_cwS 1 X.2.2.2.2.2.1 gL_law_L_refuses rfl rfl rfl kdL_refuses.2 ⟨(Nat.le_of_ble_eq_true rfl), (Nat.le_of_ble_eq_true rfl)⟩) rfl rfl hl.1 (Nat.le_of_ble_eq_true rfl) ⟨by show _ ≤ 714853; omega, by show _ ≤ 6957064; omega⟩ dL_law_205 (fun H locs hW1 hS hz hk => ?_)
          replace hW0 := aR_kept hW0 (fun q h1 h2 => hk q h1 (hdj q h2))
          clear hz hk
          refine lv_if_eq (tgt := 230) hx hb dL_law_208 (by decide) (fun c_43 => ?_) (fun c_43 => ?_)
          · replace hf := ite_t c_43 hf
            refine lv_iconst (v := (0 : Int32)) hx hb dL_law_230 (by decide) ?_
            exact bL_law_231 (L := L) (xs := xs) X hl0 hdj hX hbA hb0 hb1 hq81 ih z0_6 z1_8 v4 v5 r_32 r_34 (0 : Int32) _ _ _ _ _ (by omega) (by omega) hW0 hW1 hS (lv_sub hl [2, 3, 4, 6, 7, 1, 0] rfl) hf
          · replace hf := ite_f c_43 hf
            refine lv_aload_n hx hb dL_law_211 rfl (lv_at hl 3 rfl) ?_
            refine lv_aload_n hx hb dL_law_212 rfl (lv_at hl 4 rfl) ?_
            obtain ⟨r_44, hq_45, hf⟩ := bd1_some hf
            refine kBf (As := [.ref (ad0 360), .ref (ad1 360)]) (rest := []) X (fun q h => h.elim (hb0 q) (hb1 q)) ⟨hW0, hW1⟩ aX_no hS (zcL_alike l D cy ad0 ba0 ad1 ba1 hl0 hdj _ hq_45) (va_cwS 2 X.2.2.2.2.2.1 gL_law_L_alike rfl rfl rfl kdL_alike.2 ⟨(Nat.le_of_ble_eq_true rfl), (Nat.le_of_ble_eq_true rfl)⟩) rfl rfl hl.1 (Nat.le_of_ble_eq_true rfl) ⟨by show _ ≤ 714853; omega, by show _ ≤ 6957064; omega⟩ dL_law_213 (fun H locs hWW hS hz hk => ?_)
            obtain ⟨hW0, hW1⟩ := hWW
            clear hz hk
            refine lv_if_eq (tgt := 230) hx hb dL_law_216 (by decide) (fun c_46 => ?_) (fun c_46 => ?_)
            · replace hf := ite_t c_46 hf
              refine lv_iconst (v := (0 : Int32)) hx hb dL_law_230 (by decide) ?_
              exact bL_law_231 (L := L) (xs := xs) X hl0 hdj hX hbA hb0 hb1 hq81 ih z0_6 z1_8 v4 v5 r_32 r_34 (0 : Int32) _ _ _ _ _ (by omega) (by omega) hW0 hW1 hS (lv_sub hl [2, 3, 4, 6, 7, 1, 0] rfl) hf
            · replace hf := ite_f c_46 hf
              refine lv_aload_n hx hb dL_law_219 rfl (lv_at hl 3 rfl) ?_
              obtain ⟨r_47, hq_48, hf⟩ := bd1_some hf
              refine kBf (As := [.ref (ad0 360)]) (rest := []) X (fun q h => hb0 q h) hW0 aX_no hS (zcL_sound l D cy ad0 ba0 hl0 _ hq_48) (va_cwS 1 X.2.2.2.2.2.1 gL_law_L_sound rfl rfl rfl kdL_sound.2 ⟨(Nat.le_of_ble_eq_true rfl), (Nat.le_of_ble_eq_true rfl)⟩) rfl rfl hl.1 (Nat.le_of_ble_eq_true rfl) ⟨by show _ ≤ 714853; omega, by show _ ≤ 6957064; omega⟩ dL_law_220 (fun H locs hW0 hS hz hk => ?_)
              replace hW1 := aR_kept hW1 (fun q h1 h2 => hk q h1 (fun h => hdj q h h2))
              clear hz hk
              refine lv_if_eq (tgt := 230) hx hb dL_law_223 (by decide) (fun c_49 => ?_) (fun c_49 => ?_)
              · replace hf := ite_t c_49 hf
                refine lv_iconst (v := (0 : Int32)) hx hb dL_law_230 (by decide) ?_
                exact bL_law_231 (L := L) (xs := xs) X hl0 hdj hX hbA hb0 hb1 hq81 ih z0_6 z1_8 v4 v5 r_32 r_34 (0 : Int32) _ _ _ _ _ (by omega) (by omega) hW0 hW1 hS (lv_sub hl [2, 3, 4, 6, 7, 1, 0] rfl) hf
              · replace hf := ite_f c_49 hf
                refine lv_iconst (v := (1 : Int32)) hx hb dL_law_226 (by decide) ?_
                refine lv_goto (tgt := 231) hx hb dL_law_227 (by decide) ?_
                exact bL_law_231 (L := L) (xs := xs) X hl0 hdj hX hbA hb0 hb1 hq81 ih z0_6 z1_8 v4 v5 r_32 r_34 (1 : Int32) _ _ _ _ _ (by omega) (by omega) hW0 hW1 hS (lv_sub hl [2, 3, 4, 6, 7, 1, 0] rfl) hf
set_option maxRecDepth 100000 in
set_option maxHeartbeats 4000000 in
theorem bL_law_131 {p : Program} {l : Launch} {e : Env} {s : State} {m : MethodId} {below : List Frame} {meth : Method} {c : Code} {D : va_G} {cy : Nat → ClassId} {ad0 : Nat → Nat} {ba0 : Nat → Prop} {ad1 : Nat → Nat} {ba1 : Nat → Prop} {b : Nat} {L : Nat} {xs : Nat → Int32} (X : teC wsL_law RL cL_law 9 ret D cy (fun q => s.heap.size ≤ q) p s m #[Value.ref b] meth c) (hl0 : l.stackTraces = false) (hdj : ∀ q, ba0 q → ¬ ba1 q) (hX : aX true b L xs s s.heap) (hbA : ¬ (fun q => s.heap.size ≤ q) b) (hb0 : ∀ q, ba0 q → s.heap.size ≤ q) (hb1 : ∀ q, ba1 q → s.heap.size ≤ q) {n81 : Nat} {q81 : aS → aS → Int32 → Int32 → Option Int32} (hq81 : ∀ (z0 : aS) (z1 : aS) (v3 : Int32) (v4 : Int32) (H : Heap) (locs : List Loc) (ls : Array Slot) (ce sl : Nat), 0 + (165698 * n81 + ce) ≤ 714853 → 0 + (994942 * n81 + sl) ≤ 6957064 → aR D cy ad0 ba0 z0 H → aR D cy ad1 ba1 z1 H → va_S (fun q => s.heap.size ≤ q) s.heap H locs → lv_has ls 9 [(0, .ref b), (1, .ref (ad0 360)), (2, .ref (ad1 360)), (3, .int v3), (4, .int v4)] → q81 z0 z1 v3 v4 = some 1 → W p l e room_1 s m #[Value.ref b] below meth c H locs ce sl (lw_Z below #[Value.ref b] s) (F0 m 81 ls [])) : ∀ (z0 : aS) (z1 : aS) (v4 : Int32) (H : Heap) (locs : List Loc) (ls : Array Slot) (ce sl : Nat), 162396 + (165698 * n81 + ce) ≤ 714853 → 975130 + (994942 * n81 + sl) ≤ 6957064 → aR D cy ad0 ba0 z0 H → aR D cy ad1 ba1 z1 H → va_S (fun q => s.heap.size ≤ q) s.heap H locs → lv_has ls 9 [(0, .ref b), (1, .ref (ad0 360)), (2, .ref (ad1 360)), (4, .int v4)] → hL_law_131 L xs q81 z0 z1 v4 = some 1 → W p l e room_1 s m #[Value.ref b] below meth c H locs ce sl (lw_Z below #[Value.ref b] s) (F0 m 131 ls []) := by
  have hx := X.1
  have hb := X.2.1
  have hown := X.2.2.2.2.1
  intro z0 z1 v4 H locs ls ce sl hb1_ hb2_ hW0 hW1 hS hl hf
  unfold hL_law_131 at hf
  refine lv_iconst (v := (0 : Int32)) hx hb dL_law_131 (by decide) ?_
  refine lv_istore_n (lv' := [(3, .int (0 : Int32)), (0, .ref b), (1, .ref (ad0 360)), (2, .ref (ad1 360)), (4, .int v4)]) hx hb dL_law_132 rfl hl (by decide) rfl (fun ls hl => ?_)
  refine lv_iconst (v := (0 : Int32)) hx hb dL_law_133 (by decide) ?_
  refine lv_istore (lv' := [(5, .int (0 : Int32)), (3, .int (0 : Int32)), (0, .ref b), (1, .ref (ad0 360)), (2, .ref (ad1 360)), (4, .int v4)]) hx hb dL_law_134 hl (by decide) rfl (fun ls hl => ?_)
  exact bL_law_136 (L := L) (xs := xs) X hl0 hdj hX hbA hb0 hb1 hq81 13 z0 z1 (0 : Int32) v4 (0 : Int32) _ _ _ _ _ (by omega) (by omega) hW0 hW1 hS (lv_sub hl [2, 3, 4, 1, 5, 0] rfl) hf
set_option maxRecDepth 100000 in
set_option maxHeartbeats 4000000 in
theorem bL_law_81 {p : Program} {l : Launch} {e : Env} {s : State} {m : MethodId} {below : List Frame} {meth : Method} {c : Code} {D : va_G} {cy : Nat → ClassId} {ad0 : Nat → Nat} {ba0 : Nat → Prop} {ad1 : Nat → Nat} {ba1 : Nat → Prop} {b : Nat} {L : Nat} {xs : Nat → Int32} (X : teC wsL_law RL cL_law 9 ret D cy (fun q => s.heap.size ≤ q) p s m #[Value.ref b] meth c) (hl0 : l.stackTraces = false) (hdj : ∀ q, ba0 q → ¬ ba1 q) (hX : aX true b L xs s s.heap) (hbA : ¬ (fun q => s.heap.size ≤ q) b) (hb0 : ∀ q, ba0 q → s.heap.size ≤ q) (hb1 : ∀ q, ba1 q → s.heap.size ≤ q) : ∀ (n : Nat), ∀ (z0 : aS) (z1 : aS) (v3 : Int32) (v4 : Int32) (H : Heap) (locs : List Loc) (ls : Array Slot) (ce sl : Nat), 0 + (165698 * n + ce) ≤ 714853 → 0 + (994942 * n + sl) ≤ 6957064 → aR D cy ad0 ba0 z0 H → aR D cy ad1 ba1 z1 H → va_S (fun q => s.heap.size ≤ q) s.heap H locs → lv_has ls 9 [(0, .ref b), (1, .ref (ad0 360)), (2, .ref (ad1 360)), (3, .int v3), (4, .int v4)] → hL_law_81 L xs n z0 z1 v3 v4 = some 1 → W p l e room_1 s m #[Value.ref b] below meth c H locs ce sl (lw_Z below #[Value.ref b] s) (F0 m 81 ls []) := by
  have hx := X.1
  have hb := X.2.1
  have hown := X.2.2.2.2.1
  intro n
  induction n with
  | zero =>
    intro z0 z1 v3 v4 H locs ls ce sl hb1_ hb2_ hW0 hW1 hS hl hf
    exact nomatch hf
  | succ n ih =>
    intro z0 z1 v3 v4 H locs ls ce sl hb1_ hb2_ hW0 hW1 hS hl hf
    unfold hL_law_81 at hf
    refine lv_iload hx hb dL_law_81 (lv_at hl 4 rfl) ?_
    refine lv_iconst (v := (2 : Int32)) hx hb dL_law_83 (by decide) ?_
    refine lv_icmp_ge (tgt := 363) hx hb dL_law_84 (by decide) (fun c_16 => ?_) (fun c_16 => ?_)
    · replace hf := ite_t c_16 hf
      refine lv_iload_n hx hb dL_law_363 rfl (lv_at hl 3 rfl) ?_
      obtain hv := Option.some.inj hf
      rw [hv]
      refine va_forget (fun q hq => hS.2.2 q hq) ?_
      refine W.widen (k := 714853) (n := 6957064) (by omega) (by omega) ?_
      exact lw_ret hx hb X.2.2.2.1 X.2.2.2.2.2.2.1 dL_law_364
    · replace hf := ite_f c_16 hf
      refine lv_iload_n hx hb dL_law_87 rfl (lv_at hl 3 rfl) ?_
      refine lv_if_eq (tgt := 363) hx hb dL_law_88 (by decide) (fun c_17 => ?_) (fun c_17 => ?_)
      · replace hf := ite_t c_17 hf
        refine lv_iload_n hx hb dL_law_363 rfl (lv_at hl 3 rfl) ?_
        obtain hv := Option.some.inj hf
        rw [hv]
        refine va_forget (fun q hq => hS.2.2 q hq) ?_
        refine W.widen (k := 714853) (n := 6957064) (by omega) (by omega) ?_
        exact lw_ret hx hb X.2.2.2.1 X.2.2.2.2.2.2.1 dL_law_364
      · replace hf := ite_f c_17 hf
        refine lv_aload_n hx hb dL_law_91 rfl (lv_at hl 1 rfl) ?_
        refine lv_aload_n hx hb dL_law_92 rfl (lv_at hl 2 rfl) ?_
        refine lv_aload_n hx hb dL_law_93 rfl (lv_at hl 0 rfl) ?_
        refine lv_bipush (v := (40 : Int32)) hx hb dL_law_94 (by decide) ?_
        refine lv_iload hx hb dL_law_96 (lv_at hl 4 rfl) ?_
        refine lv_imul hx hb dL_law_98 ?_
        obtain ⟨r_18, z0_3, z1_4, hq_19, hf⟩ := bd3_some hf
        refine kBf (As := [.ref (ad0 360), .ref (ad1 360), .ref b, .int ((40 : Int32) * v4)]) (rest := []) X (fun q h => h.elim (hb0 q) (hb1 q)) ⟨hW0, hW1⟩ (aX_S hX hbA hS) hS (zcL_told l D cy ad0 ba0 ad1 ba1 hl0 hdj b L xs (fun h => hbA (h.elim (hb0 b) (hb1 b))) _ hq_19) (va_cwS 4 X.2.2.2.2.2.1 gL_law_L_told rfl rfl rfl kdL_told.2 ⟨(Nat.le_of_ble_eq_true rfl), (Nat.le_of_ble_eq_true rfl)⟩) rfl rfl hl.1 (Nat.le_of_ble_eq_true rfl) ⟨by show _ ≤ 714853; omega, by show _ ≤ 6957064; omega⟩ dL_law_99 (fun H locs hWW hS hz hk => ?_)
        obtain ⟨hW0, hW1⟩ := hWW
        clear hz hk
        refine lv_if_eq (tgt := 131) hx hb dL_law_102 (by decide) (fun c_20 => ?_) (fun c_20 => ?_)
        · replace hf := ite_t c_20 hf
          exact bL_law_131 (L := L) (xs := xs) X hl0 hdj hX hbA hb0 hb1 ih z0_3 z1_4 v4 _ _ _ _ _ (by omega) (by omega) hW0 hW1 hS (lv_sub hl [0, 1, 2, 4] rfl) hf
        · replace hf := ite_f c_20 hf
          refine lv_aload_n hx hb dL_law_105 rfl (lv_at hl 2 rfl) ?_
          obtain ⟨r_21, z1_5, hq_22, hf⟩ := bd2_some hf
          refine kBf (As := [.ref (ad1 360)]) (rest := []) X (fun q h => hb1 q h) hW1 aX_no hS (zcL_refuses l D cy ad1 ba1 hl0 _ hq_22) (va_cwS 1 X.2.2.2.2.2.1 gL_law_L_refuses rfl rfl rfl kdL_refuses.2 ⟨(Nat.le_of_ble_eq_true rfl), (Nat.le_of_ble_eq_true rfl)⟩) rfl rfl hl.1 (Nat.le_of_ble_eq_true rfl) ⟨by show _ ≤ 714853; omega, by show _ ≤ 6957064; omega⟩ dL_law_106 (fun H locs hW1 hS hz hk => ?_)
          replace hW0 := aR_kept hW0 (fun q h1 h2 => hk q h1 (hdj q h2))
          clear hz hk
          refine lv_if_eq (tgt := 131) hx hb dL_law_109 (by decide) (fun c_23 => ?_) (fun c_23 => ?_)
          · replace hf := ite_t c_23 hf
            exact bL_law_131 (L := L) (xs := xs) X hl0 hdj hX hbA hb0 hb1 ih z0_3 z1_5 v4 _ _ _ _ _ (by omega) (by omega) hW0 hW1 hS (lv_sub hl [0, 1, 2, 4] rfl) hf
          · replace hf := ite_f c_23 hf
            refine lv_aload_n hx hb dL_law_112 rfl (lv_at hl 1 rfl) ?_
            refine lv_aload_n hx hb dL_law_113 rfl (lv_at hl 2 rfl) ?_
            obtain ⟨r_24, hq_25, hf⟩ := bd1_some hf
            refine kBf (As := [.ref (ad0 360), .ref (ad1 360)]) (rest := []) X (fun q h => h.elim (hb0 q) (hb1 q)) ⟨hW0, hW1⟩ aX_no hS (zcL_alike l D cy ad0 ba0 ad1 ba1 hl0 hdj _ hq_25) (va_cwS 2 X.2.2.2.2.2.1 gL_law_L_alike rfl rfl rfl kdL_alike.2 ⟨(Nat.le_of_ble_eq_true rfl), (Nat.le_of_ble_eq_true rfl)⟩) rfl rfl hl.1 (Nat.le_of_ble_eq_true rfl) ⟨by show _ ≤ 714853; omega, by show _ ≤ 6957064; omega⟩ dL_law_114 (fun H locs hWW hS hz hk => ?_)
            obtain ⟨hW0, hW1⟩ := hWW
            clear hz hk
            refine lv_if_eq (tgt := 131) hx hb dL_law_117 (by decide) (fun c_26 => ?_) (fun c_26 => ?_)
            · replace hf := ite_t c_26 hf
              exact bL_law_131 (L := L) (xs := xs) X hl0 hdj hX hbA hb0 hb1 ih z0_3 z1_5 v4 _ _ _ _ _ (by omega) (by omega) hW0 hW1 hS (lv_sub hl [0, 1, 2, 4] rfl) hf
            · replace hf := ite_f c_26 hf
              refine lv_aload_n hx hb dL_law_120 rfl (lv_at hl 1 rfl) ?_
              obtain ⟨r_27, hq_28, hf⟩ := bd1_some hf
              refine kBf (As := [.ref (ad0 360)]) (rest := []) X (fun q h => hb0 q h) hW0 aX_no hS (zcL_sound l D cy ad0 ba0 hl0 _ hq_28) (va_cwS 1 X.2.2.2.2.2.1 gL_law_L_sound rfl rfl rfl kdL_sound.2 ⟨(Nat.le_of_ble_eq_true rfl), (Nat.le_of_ble_eq_true rfl)⟩) rfl rfl hl.1 (Nat.le_of_ble_eq_true rfl) ⟨by show _ ≤ 714853; omega, by show _ ≤ 6957064; omega⟩ dL_law_121 (fun H locs hW0 hS hz hk => ?_)
              replace hW1 := aR_kept hW1 (fun q h1 h2 => hk q h1 (fun h => hdj q h h2))
              clear hz hk
              refine lv_if_eq (tgt := 131) hx hb dL_law_124 (by decide) (fun c_29 => ?_) (fun c_29 => ?_)
              · replace hf := ite_t c_29 hf
                exact bL_law_131 (L := L) (xs := xs) X hl0 hdj hX hbA hb0 hb1 ih z0_3 z1_5 v4 _ _ _ _ _ (by omega) (by omega) hW0 hW1 hS (lv_sub hl [0, 1, 2, 4] rfl) hf
              · replace hf := ite_f c_29 hf
                refine lv_iconst (v := (1 : Int32)) hx hb dL_law_127 (by decide) ?_
                refine lv_goto (tgt := 132) hx hb dL_law_128 (by decide) ?_
                refine lv_istore_n (lv' := [(3, .int (1 : Int32)), (0, .ref b), (1, .ref (ad0 360)), (2, .ref (ad1 360)), (4, .int v4)]) hx hb dL_law_132 rfl hl (by decide) rfl (fun ls hl => ?_)
                refine lv_iconst (v := (0 : Int32)) hx hb dL_law_133 (by decide) ?_
                refine lv_istore (lv' := [(5, .int (0 : Int32)), (3, .int (1 : Int32)), (0, .ref b), (1, .ref (ad0 360)), (2, .ref (ad1 360)), (4, .int v4)]) hx hb dL_law_134 hl (by decide) rfl (fun ls hl => ?_)
                exact bL_law_136 (L := L) (xs := xs) X hl0 hdj hX hbA hb0 hb1 ih 13 z0_3 z1_5 (1 : Int32) v4 (0 : Int32) _ _ _ _ _ (by omega) (by omega) hW0 hW1 hS (lv_sub hl [2, 3, 4, 1, 5, 0] rfl) hf
set_option maxRecDepth 100000 in
set_option maxHeartbeats 4000000 in
theorem bL_law_76 {p : Program} {l : Launch} {e : Env} {s : State} {m : MethodId} {below : List Frame} {meth : Method} {c : Code} {D : va_G} {cy : Nat → ClassId} {ad0 : Nat → Nat} {ba0 : Nat → Prop} {ad1 : Nat → Nat} {ba1 : Nat → Prop} {b : Nat} {L : Nat} {xs : Nat → Int32} (X : teC wsL_law RL cL_law 9 ret D cy (fun q => s.heap.size ≤ q) p s m #[Value.ref b] meth c) (hl0 : l.stackTraces = false) (hdj : ∀ q, ba0 q → ¬ ba1 q) (hX : aX true b L xs s s.heap) (hbA : ¬ (fun q => s.heap.size ≤ q) b) (hb0 : ∀ q, ba0 q → s.heap.size ≤ q) (hb1 : ∀ q, ba1 q → s.heap.size ≤ q) : ∀ (z0 : aS) (z1 : aS) (H : Heap) (locs : List Loc) (ls : Array Slot) (ce sl : Nat), 497094 + (ce) ≤ 714853 → 2984826 + (sl) ≤ 6957064 → aR D cy ad0 ba0 z0 H → aR D cy ad1 ba1 z1 H → va_S (fun q => s.heap.size ≤ q) s.heap H locs → lv_has ls 9 [(0, .ref b), (1, .ref (ad0 360)), (2, .ref (ad1 360))] → hL_law_76 L xs z0 z1 = some 1 → W p l e room_1 s m #[Value.ref b] below meth c H locs ce sl (lw_Z below #[Value.ref b] s) (F0 m 76 ls []) := by
  have hx := X.1
  have hb := X.2.1
  have hown := X.2.2.2.2.1
  intro z0 z1 H locs ls ce sl hb1_ hb2_ hW0 hW1 hS hl hf
  unfold hL_law_76 at hf
  refine lv_iconst (v := (0 : Int32)) hx hb dL_law_76 (by decide) ?_
  refine lv_istore_n (lv' := [(3, .int (0 : Int32)), (0, .ref b), (1, .ref (ad0 360)), (2, .ref (ad1 360))]) hx hb dL_law_77 rfl hl (by decide) rfl (fun ls hl => ?_)
  refine lv_iconst (v := (0 : Int32)) hx hb dL_law_78 (by decide) ?_
  refine lv_istore (lv' := [(4, .int (0 : Int32)), (3, .int (0 : Int32)), (0, .ref b), (1, .ref (ad0 360)), (2, .ref (ad1 360))]) hx hb dL_law_79 hl (by decide) rfl (fun ls hl => ?_)
  exact bL_law_81 (L := L) (xs := xs) X hl0 hdj hX hbA hb0 hb1 3 z0 z1 (0 : Int32) (0 : Int32) _ _ _ _ _ (by omega) (by omega) hW0 hW1 hS (lv_sub hl [2, 3, 4, 1, 0] rfl) hf
set_option maxRecDepth 100000 in
set_option maxHeartbeats 4000000 in
theorem bL_law_16 {p : Program} {l : Launch} {e : Env} {s : State} {m : MethodId} {below : List Frame} {meth : Method} {c : Code} {D : va_G} {cy : Nat → ClassId} {ad0 : Nat → Nat} {ba0 : Nat → Prop} {ad1 : Nat → Nat} {ba1 : Nat → Prop} {b : Nat} {L : Nat} {xs : Nat → Int32} (X : teC wsL_law RL cL_law 9 ret D cy (fun q => s.heap.size ≤ q) p s m #[Value.ref b] meth c) (hl0 : l.stackTraces = false) (hdj : ∀ q, ba0 q → ¬ ba1 q) (hX : aX true b L xs s s.heap) (hbA : ¬ (fun q => s.heap.size ≤ q) b) (hb0 : ∀ q, ba0 q → s.heap.size ≤ q) (hb1 : ∀ q, ba1 q → s.heap.size ≤ q) : ∀ (z0 : aS) (z1 : aS) (H : Heap) (locs : List Loc) (ls : Array Slot) (ce sl : Nat), 500205 + (ce) ≤ 714853 → 3003492 + (sl) ≤ 6957064 → aR D cy ad0 ba0 z0 H → aR D cy ad1 ba1 z1 H → va_S (fun q => s.heap.size ≤ q) s.heap H locs → lv_has ls 9 [(0, .ref b), (1, .ref (ad0 360)), (2, .ref (ad1 360))] → hL_law L xs z0 z1 = some 1 → W p l e room_1 s m #[Value.ref b] below meth c H locs ce sl (lw_Z below #[Value.ref b] s) (F0 m 16 ls []) := by
  have hx := X.1
  have hb := X.2.1
  have hown := X.2.2.2.2.1
  intro z0 z1 H locs ls ce sl hb1_ hb2_ hW0 hW1 hS hl hf
  unfold hL_law at hf
  refine lv_aload_n hx hb dL_law_16 rfl (lv_at hl 1 rfl) ?_
  refine kD (As := []) (rest := []) X (fun q h => hb0 q h) hW0 hS (tD_errorPosition l D cy ad0 ba0 z0) (cwV 0 X.2.2.2.2.2.1 gL_law_X5_errorPosition rfl rfl rfl kdX5_errorPosition ⟨(Nat.le_of_ble_eq_true rfl), (Nat.le_of_ble_eq_true rfl)⟩) rfl rfl hl.1 (Nat.le_of_ble_eq_true rfl) ⟨by show _ ≤ 714853; omega, by show _ ≤ 6957064; omega⟩ dL_law_17 (fun H locs hW0 hS hz hk => ?_)
  replace hW1 := aR_kept hW1 (fun q h1 h2 => hk q h1 (fun h => hdj q h h2))
  clear hz hk
  refine lv_if_ne (tgt := 76) hx hb dL_law_20 (by decide) (fun c_1 => ?_) (fun c_1 => ?_)
  · replace hf := ite_f c_1 hf
    exact bL_law_76 (L := L) (xs := xs) X hl0 hdj hX hbA hb0 hb1 z0 z1 _ _ _ _ _ (by omega) (by omega) hW0 hW1 hS (lv_sub hl [0, 1, 2] rfl) hf
  · replace hf := ite_t c_1 hf
    refine lv_aload_n hx hb dL_law_23 rfl (lv_at hl 1 rfl) ?_
    refine lv_iconst (v := (0 : Int32)) hx hb dL_law_24 (by decide) ?_
    refine kAf (As := [.ref (ad0 360), .int (0 : Int32)]) (rest := []) X (fun q h => hb0 q h) hW0 hS (tI_tryAbout l D cy ad0 ba0 hl0 z0 (0 : Int32)) (vx_cwSW (hh := [(0, 5, 6, 13)]) 2 X.2.2.2.2.2.1 gL_law_L_tryAbout rfl rfl rfl kdL_tryAbout.2 ⟨(Nat.le_of_ble_eq_true rfl), (Nat.le_of_ble_eq_true rfl)⟩) rfl rfl hl.1 (Nat.le_of_ble_eq_true rfl) ⟨by show _ ≤ 714853; omega, by show _ ≤ 6957064; omega⟩ dL_law_25 (fun H locs hW0 hS hz hk => ?_)
    replace hW1 := aR_kept hW1 (fun q h1 h2 => hk q h1 (fun h => hdj q h h2))
    clear hz hk
    refine lv_if_ne (tgt := 76) hx hb dL_law_28 (by decide) (fun c_2 => ?_) (fun c_2 => ?_)
    · replace hf := ite_f c_2 hf
      exact bL_law_76 (L := L) (xs := xs) X hl0 hdj hX hbA hb0 hb1 z0 z1 _ _ _ _ _ (by omega) (by omega) hW0 hW1 hS (lv_sub hl [0, 1, 2] rfl) hf
    · replace hf := ite_t c_2 hf
      refine lv_aload_n hx hb dL_law_31 rfl (lv_at hl 1 rfl) ?_
      refine kD (As := []) (rest := []) X (fun q h => hb0 q h) hW0 hS (tD_missedMost l D cy ad0 ba0 z0) (cwV 0 X.2.2.2.2.2.1 gL_law_X5_missedMost rfl rfl rfl kdX5_missedMost ⟨(Nat.le_of_ble_eq_true rfl), (Nat.le_of_ble_eq_true rfl)⟩) rfl rfl hl.1 (Nat.le_of_ble_eq_true rfl) ⟨by show _ ≤ 714853; omega, by show _ ≤ 6957064; omega⟩ dL_law_32 (fun H locs hW0 hS hz hk => ?_)
      replace hW1 := aR_kept hW1 (fun q h1 h2 => hk q h1 (fun h => hdj q h h2))
      clear hz hk
      refine lv_sipush (v := (-9999 : Int32)) hx hb dL_law_35 (by decide) ?_
      refine lv_icmp_ne (tgt := 76) hx hb dL_law_38 (by decide) (fun c_3 => ?_) (fun c_3 => ?_)
      · replace hf := ite_f c_3 hf
        exact bL_law_76 (L := L) (xs := xs) X hl0 hdj hX hbA hb0 hb1 z0 z1 _ _ _ _ _ (by omega) (by omega) hW0 hW1 hS (lv_sub hl [0, 1, 2] rfl) hf
      · replace hf := ite_t c_3 hf
        refine lv_aload_n hx hb dL_law_41 rfl (lv_at hl 1 rfl) ?_
        obtain ⟨r_4, z0_1, hq_5, hf⟩ := bd2_some hf
        refine kAf (As := [.ref (ad0 360)]) (rest := []) X (fun q h => hb0 q h) hW0 hS (tI_tryUndo l D cy ad0 ba0 hl0 hq_5) (vx_cwSW (hh := [(0, 4, 5, 16)]) 1 X.2.2.2.2.2.1 gL_law_L_tryUndo rfl rfl rfl kdL_tryUndo.2 ⟨(Nat.le_of_ble_eq_true rfl), (Nat.le_of_ble_eq_true rfl)⟩) rfl rfl hl.1 (Nat.le_of_ble_eq_true rfl) ⟨by show _ ≤ 714853; omega, by show _ ≤ 6957064; omega⟩ dL_law_42 (fun H locs hW0 hS hz hk => ?_)
        replace hW1 := aR_kept hW1 (fun q h1 h2 => hk q h1 (fun h => hdj q h h2))
        clear hz hk
        refine lv_ldc (v := (-99003 : Int32)) hx hb hown (X.2.2.2.2.2.1 _ wL_law_18) dL_law_45 ?_
        refine lv_icmp_ne (tgt := 76) hx hb dL_law_47 (by decide) (fun c_6 => ?_) (fun c_6 => ?_)
        · replace hf := ite_f c_6 hf
          exact bL_law_76 (L := L) (xs := xs) X hl0 hdj hX hbA hb0 hb1 z0_1 z1 _ _ _ _ _ (by omega) (by omega) hW0 hW1 hS (lv_sub hl [0, 1, 2] rfl) hf
        · replace hf := ite_t c_6 hf
          refine lv_aload_n hx hb dL_law_50 rfl (lv_at hl 2 rfl) ?_
          obtain ⟨r_7, z1_2, hq_8, hf⟩ := bd2_some hf
          refine kBf (As := [.ref (ad1 360)]) (rest := []) X (fun q h => hb1 q h) hW1 aX_no hS (zcL_refuses l D cy ad1 ba1 hl0 _ hq_8) (va_cwS 1 X.2.2.2.2.2.1 gL_law_L_refuses rfl rfl rfl kdL_refuses.2 ⟨(Nat.le_of_ble_eq_true rfl), (Nat.le_of_ble_eq_true rfl)⟩) rfl rfl hl.1 (Nat.le_of_ble_eq_true rfl) ⟨by show _ ≤ 714853; omega, by show _ ≤ 6957064; omega⟩ dL_law_51 (fun H locs hW1 hS hz hk => ?_)
          replace hW0 := aR_kept hW0 (fun q h1 h2 => hk q h1 (hdj q h2))
          clear hz hk
          refine lv_if_eq (tgt := 76) hx hb dL_law_54 (by decide) (fun c_9 => ?_) (fun c_9 => ?_)
          · replace hf := ite_t c_9 hf
            exact bL_law_76 (L := L) (xs := xs) X hl0 hdj hX hbA hb0 hb1 z0_1 z1_2 _ _ _ _ _ (by omega) (by omega) hW0 hW1 hS (lv_sub hl [0, 1, 2] rfl) hf
          · replace hf := ite_f c_9 hf
            refine lv_aload_n hx hb dL_law_57 rfl (lv_at hl 1 rfl) ?_
            refine lv_aload_n hx hb dL_law_58 rfl (lv_at hl 2 rfl) ?_
            obtain ⟨r_10, hq_11, hf⟩ := bd1_some hf
            refine kBf (As := [.ref (ad0 360), .ref (ad1 360)]) (rest := []) X (fun q h => h.elim (hb0 q) (hb1 q)) ⟨hW0, hW1⟩ aX_no hS (zcL_alike l D cy ad0 ba0 ad1 ba1 hl0 hdj _ hq_11) (va_cwS 2 X.2.2.2.2.2.1 gL_law_L_alike rfl rfl rfl kdL_alike.2 ⟨(Nat.le_of_ble_eq_true rfl), (Nat.le_of_ble_eq_true rfl)⟩) rfl rfl hl.1 (Nat.le_of_ble_eq_true rfl) ⟨by show _ ≤ 714853; omega, by show _ ≤ 6957064; omega⟩ dL_law_59 (fun H locs hWW hS hz hk => ?_)
            obtain ⟨hW0, hW1⟩ := hWW
            clear hz hk
            refine lv_if_eq (tgt := 76) hx hb dL_law_62 (by decide) (fun c_12 => ?_) (fun c_12 => ?_)
            · replace hf := ite_t c_12 hf
              exact bL_law_76 (L := L) (xs := xs) X hl0 hdj hX hbA hb0 hb1 z0_1 z1_2 _ _ _ _ _ (by omega) (by omega) hW0 hW1 hS (lv_sub hl [0, 1, 2] rfl) hf
            · replace hf := ite_f c_12 hf
              refine lv_aload_n hx hb dL_law_65 rfl (lv_at hl 1 rfl) ?_
              obtain ⟨r_13, hq_14, hf⟩ := bd1_some hf
              refine kBf (As := [.ref (ad0 360)]) (rest := []) X (fun q h => hb0 q h) hW0 aX_no hS (zcL_sound l D cy ad0 ba0 hl0 _ hq_14) (va_cwS 1 X.2.2.2.2.2.1 gL_law_L_sound rfl rfl rfl kdL_sound.2 ⟨(Nat.le_of_ble_eq_true rfl), (Nat.le_of_ble_eq_true rfl)⟩) rfl rfl hl.1 (Nat.le_of_ble_eq_true rfl) ⟨by show _ ≤ 714853; omega, by show _ ≤ 6957064; omega⟩ dL_law_66 (fun H locs hW0 hS hz hk => ?_)
              replace hW1 := aR_kept hW1 (fun q h1 h2 => hk q h1 (fun h => hdj q h h2))
              clear hz hk
              refine lv_if_eq (tgt := 76) hx hb dL_law_69 (by decide) (fun c_15 => ?_) (fun c_15 => ?_)
              · replace hf := ite_t c_15 hf
                exact bL_law_76 (L := L) (xs := xs) X hl0 hdj hX hbA hb0 hb1 z0_1 z1_2 _ _ _ _ _ (by omega) (by omega) hW0 hW1 hS (lv_sub hl [0, 1, 2] rfl) hf
              · replace hf := ite_f c_15 hf
                refine lv_iconst (v := (1 : Int32)) hx hb dL_law_72 (by decide) ?_
                refine lv_goto (tgt := 77) hx hb dL_law_73 (by decide) ?_
                refine lv_istore_n (lv' := [(3, .int (1 : Int32)), (0, .ref b), (1, .ref (ad0 360)), (2, .ref (ad1 360))]) hx hb dL_law_77 rfl hl (by decide) rfl (fun ls hl => ?_)
                refine lv_iconst (v := (0 : Int32)) hx hb dL_law_78 (by decide) ?_
                refine lv_istore (lv' := [(4, .int (0 : Int32)), (3, .int (1 : Int32)), (0, .ref b), (1, .ref (ad0 360)), (2, .ref (ad1 360))]) hx hb dL_law_79 hl (by decide) rfl (fun ls hl => ?_)
                exact bL_law_81 (L := L) (xs := xs) X hl0 hdj hX hbA hb0 hb1 3 z0_1 z1_2 (1 : Int32) (0 : Int32) _ _ _ _ _ (by omega) (by omega) hW0 hW1 hS (lv_sub hl [2, 3, 4, 1, 0] rfl) hf
