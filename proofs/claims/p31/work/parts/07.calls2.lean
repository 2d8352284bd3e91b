abbrev xP (l : Launch) (y : MethodName) (ws : List Cond) (rm : Room) (mc ms : Nat) (D : va_G) (cy : Nat → ClassId) (ad : Nat → Nat) (ba : Nat → Prop) (O : Int64) (S : teS) (av : List Value) (q : Nat ⊕ Unit) : Prop :=
  xV l y ws rm mc ms D cy ad ba O S av (fun u => Sum.inr () = q ∧ u = S) (fun c => Sum.inl c = q)
abbrev xQ (l : Launch) (y : MethodName) (ws : List Cond) (rm : Room) (mc ms : Nat) (D : va_G) (cy : Nat → ClassId) (ad : Nat → Nat) (ba : Nat → Prop) (O : Int64) (S : teS) (av : List Value) (q : Nat ⊕ (Int32 × teS)) : Prop :=
  xI l y ws rm mc ms D cy ad ba O S av (fun a u => Sum.inr (a, u) = q) (fun c => Sum.inl c = q)
section TETHR
variable {p : Program} {l : Launch} {e : Env} {R : Room} {s : State} {m : MethodId} {args : Array Value} {below : List Frame} {meth : Method} {c : Code} {H : Heap} {locs : List Loc} {cells slots : Nat} {Q : State → Prop}
variable {Ts : List Cond} {own : String} {cc : ByteArray} {nL : Nat} {ret : Option FieldType} {D : va_G} {cy : Nat → ClassId} {ad : Nat → Nat} {ba : Nat → Prop} {O : Int64} {S S0 S1 : teS} {pc : Nat} {ls : Array Slot} {st rest As : List Value} {id : Nat}
variable {y : MethodName} {bytes : ByteArray} {maxL mc ms mc1 ms1 n index : Nat} {rt : Option FieldType} {ws : List Cond} {rm : Room} {C : String} {Qc : Array Value → State → Outcome → State → Prop} {ex : Nat → Prop}
/-- an exception that isn't caught here goes on -/
theorem te_pass (X : teC Ts own cc nL ret D cy ba p s m args meth c) (hN : ∀ x ∈ c.exceptionTable.toList, False) (hR : teR D cy ad ba O S0 H) (hS : va_S (teA ba) s.heap H locs) {c0 : Nat} {E : String} {ce : Cell} {q9 : Addr} (h1 : ex c0) (h2 : E = teN c0) (h3 : H[q9]? = some ce) (h4 : ce.vm = .none) (h5 : s.vm.findClass E = some ce.cls) (hc : cells ≤ mc) (hs : slots ≤ ms) :
    vx_W p l e R s m args below meth c H locs cells slots (vx_MQ below Qc (teXC D cy ad ba O S0 ex) args s mc ms (teA ba)) (F0 m pc ls rest) q9 := by
  obtain ⟨hx, hb, hml, hr, hown, hts, hlocks, hK, hF⟩ := X
  exact vx_out (fun x hx => (hN x hx).elim) hlocks h3 h4 h5 (fun t ht hW => ⟨(), trivial, ⟨⟨c0, h2, h1⟩, te_hp ht hR⟩, hS.F ht⟩) hS.2.2 hc hs
theorem te_thr (X : teC Ts own cc nL ret D cy ba p s m args meth c) (hN : ∀ x ∈ c.exceptionTable.toList, False) (hl0 : l.stackTraces = false) (hR : teR D cy ad ba O S0 H) (hS : va_S (teA ba) s.heap H locs) (hls : ls.size = nL) (hown : own = "TandemExchange") {cls text : String} {ik is ic c0 : Nat} (hcls : Bundle.fit cls = true)
    (hk : Cond.classLink own ik cls ∈ Ts) (hini : Cond.initialized cls ∈ Ts) (htx : (is, text) ∈ teX) (hat : ∀ w ∈ (vx_atS own ic cls ["java/lang/RuntimeException", "java/lang/Exception"]).filter goodWord, w ∈ Ts)
    (hng : ∀ w ∈ (vx_atS own ic cls ["java/lang/RuntimeException", "java/lang/Exception"]).filter (fun w => !goodWord w), w ∈ [Cond.castable cls cls, .declares (Bundle.initS "java/lang/RuntimeException"), .declares (Bundle.initS "java/lang/Exception"), .declares (Bundle.initS "java/lang/Throwable")])
    (hgood : ∀ w ∈ Cond.classLink own ik cls :: Cond.initialized cls :: vx_atS own ic cls ["java/lang/RuntimeException", "java/lang/Exception"], vx_ot w = true) (hcast : va_Nw (.castable cls cls) s)
    (d0 : decode cc pc = .ok (.new ik, 3)) (d3 : decode cc (pc + 3) = .ok (.dup, 1)) (d4 : decode cc (pc + 4) = .ok (.ldc is, 2)) (d6 : decode cc (pc + 6) = .ok (.invokespecial ic, 3)) (d9 : decode cc (pc + 9) = .ok (.athrow, 1))
    (hRf : 5 < R.frames) (hRl : (rest.map fun v => v.category).sum + 82 ≤ R.locals) (hRc : cells + 1 ≤ R.cells) (hRs : slots + 6 ≤ R.slots) (hc : cells + 1 ≤ mc) (hs : slots + 6 ≤ ms) (hE : cls = teN c0) (he : ex c0) :
    W p l e R s m args below meth c H locs cells slots (vx_MQ below Qc (teXC D cy ad ba O S0 ex) args s mc ms (teA ba)) (F0 m pc ls rest) := by
  obtain ⟨hx, hb, hml, hr, ho, hts, hlocks, hK, hF⟩ := X
  obtain ⟨sa, hsa⟩ := hF.2.2.2.1 _ htx
  rw [← hown] at hsa
  refine vx_throwS (A := teA ba) hx hb hl0 ho hcls (by decide +kernel) (hts _ hk) (hts _ hini) hsa (vx_hat (fun w hw => hts w (hat w hw)) hng (vx_c (va_Nw.use rfl hcast) (vx_c (va_Nw.use rfl (hF.2.2.1.2.2.2.2 _ (by simp))) (vx_c (va_Nw.use rfl (hF.2.2.1.2.2.2.2 _ (by simp))) (vx_c (va_Nw.use rfl (hF.2.2.1.2.2.2.2 _ (by simp))) vx_n))))) hgood hF.1 hF.2.1 hS (hls.trans hml.symm) d0 d3 d4 d6 d9 (fun x hx => (hN x hx).elim) hRf hRl hRc hRs hlocks (fun t ht hz hk1 => ?_) hS.2.2 hc hs
  obtain ⟨L, f, hP, hD, hcs, hi, hz0⟩ := hR
  refine ⟨(), trivial, ⟨⟨c0, hE, he⟩, L, f, fun k q hq => ?_, hD, hcs, hi, Nat.le_trans hz0 hz⟩, ?_⟩
  · exact (hP k q hq).kept (hk1 q.1 (hP k q hq).lt)
  · exact ⟨Nat.le_trans hS.1 hz, fun q h1 h2 => (hk1 q (Nat.lt_of_lt_of_le h1 hS.1)).trans (hS.2.1 q h1 h2)⟩
theorem te_thrW (X : teC Ts own cc nL ret D cy ba p s m args meth c) (hN : ∀ x ∈ c.exceptionTable.toList, False) (hl0 : l.stackTraces = false) (hR : teR D cy ad ba O S0 H) (hS : va_S (teA ba) s.heap H locs) (hls : ls.size = nL) (hown : own = "TandemExchange") {cls text : String} {ik is ic c0 : Nat} (hcls : Bundle.fit cls = true)
    (hk : Cond.classLink own ik cls ∈ Ts) (hini : Cond.initialized cls ∈ Ts) (htx : (is, text) ∈ teX) (hat : ∀ w ∈ (vx_atS own ic cls ["java/lang/RuntimeException", "java/lang/Exception"]).filter goodWord, w ∈ Ts)
    (hng : ∀ w ∈ (vx_atS own ic cls ["java/lang/RuntimeException", "java/lang/Exception"]).filter (fun w => !goodWord w), w ∈ [Cond.castable cls cls, .declares (Bundle.initS "java/lang/RuntimeException"), .declares (Bundle.initS "java/lang/Exception"), .declares (Bundle.initS "java/lang/Throwable")])
    (hgood : ∀ w ∈ Cond.classLink own ik cls :: Cond.initialized cls :: vx_atS own ic cls ["java/lang/RuntimeException", "java/lang/Exception"], vx_ot w = true) (hcast : va_Nw (.castable cls cls) s)
    (d0 : decode cc pc = .ok (.new ik, 3)) (d3 : decode cc (pc + 3) = .ok (.dup, 1)) (d4 : decode cc (pc + 4) = .ok (.ldc_w is, 3)) (d7 : decode cc (pc + 7) = .ok (.invokespecial ic, 3)) (d10 : decode cc (pc + 10) = .ok (.athrow, 1))
    (hRf : 5 < R.frames) (hRl : (rest.map fun v => v.category).sum + 82 ≤ R.locals) (hRc : cells + 1 ≤ R.cells) (hRs : slots + 6 ≤ R.slots) (hc : cells + 1 ≤ mc) (hs : slots + 6 ≤ ms) (hE : cls = teN c0) (he : ex c0) :
    W p l e R s m args below meth c H locs cells slots (vx_MQ below Qc (teXC D cy ad ba O S0 ex) args s mc ms (teA ba)) (F0 m pc ls rest) := by
  obtain ⟨hx, hb, hml, hr, ho, hts, hlocks, hK, hF⟩ := X
  obtain ⟨sa, hsa⟩ := hF.2.2.2.1 _ htx
  rw [← hown] at hsa
  refine vx_throwSW (A := teA ba) hx hb hl0 ho hcls (by decide +kernel) (hts _ hk) (hts _ hini) hsa (vx_hat (fun w hw => hts w (hat w hw)) hng (vx_c (va_Nw.use rfl hcast) (vx_c (va_Nw.use rfl (hF.2.2.1.2.2.2.2 _ (by simp))) (vx_c (va_Nw.use rfl (hF.2.2.1.2.2.2.2 _ (by simp))) (vx_c (va_Nw.use rfl (hF.2.2.1.2.2.2.2 _ (by simp))) vx_n))))) hgood hF.1 hF.2.1 hS (hls.trans hml.symm) d0 d3 d4 d7 d10 (fun x hx => (hN x hx).elim) hRf hRl hRc hRs hlocks (fun t ht hz hk1 => ?_) hS.2.2 hc hs
  obtain ⟨L, f, hP, hD, hcs, hi, hz0⟩ := hR
  refine ⟨(), trivial, ⟨⟨c0, hE, he⟩, L, f, fun k q hq => ?_, hD, hcs, hi, Nat.le_trans hz0 hz⟩, ?_⟩
  · exact (hP k q hq).kept (hk1 q.1 (hP k q hq).lt)
  · exact ⟨Nat.le_trans hS.1 hz, fun q h1 h2 => (hk1 q (Nat.lt_of_lt_of_le h1 hS.1)).trans (hS.2.1 q h1 h2)⟩
/-- calls of the methods that only refuse: they throw, or nothing is different -/
theorem kSxl (X : teC Ts own cc nL ret D cy ba p s m args meth c) (hN : ∀ x ∈ c.exceptionTable.toList, False) (hR : teR D cy ad ba O S H) (hS : va_S (teA ba) s.heap H locs) {c0 : Nat} (hM : xP l y ws rm mc1 ms1 D cy ad ba O S As (.inl c0)) (cw : CallB R s args own index y bytes maxL rt ws rm mc1 ms1 n ∧ (Cond.static y).before args s = true)
    (hn : As.length = n) (hst : st = As.reverse ++ rest) (hls : ls.size = nL) (hW : (rest.map fun v => v.category).sum ≤ 8) (hcs : cells + mc1 ≤ R.cells ∧ slots + ms1 ≤ R.slots) (hc : cells + mc1 ≤ mc) (hs : slots + ms1 ≤ ms) (hdg : decode cc pc = .ok (.invokestatic index, 3)) (he : ex c0) :
    W p l e R s m args below meth c H locs cells slots (vx_MQ below Qc (teXC D cy ad ba O S ex) args s mc ms (teA ba)) (F0 m pc ls st) := by
  have hpre := teU_at X hR hS As
  have X' := X
  obtain ⟨hx, hb, hml, -, hown, hts, -, hK, hF⟩ := X
  subst hst
  refine vx_callv (vx_runS (As := As) (rest := rest) ⟨hx, hb, hml, hown, hts⟩ hM cw ⟨teU_blind, hpre⟩ rfl hn hls rfl (lv_room hW) hdg hcs) hS (fun q _ h => h) (fun q h => h) (fun q _ h => h) (fun E ce q9 u t H1 locs1 ht hvm _ hB hz1 hk1 hS1 h3 h4 h5 => ?_) (fun u t H1 locs1 ht hvm hw hB hz1 hk1 hS1 => ?_)
  · obtain ⟨⟨c1, h1, h2⟩, hR1⟩ := hB
    cases h2
    exact te_pass X' hN (by rw [← ht]; exact hR1) hS1 he h1 h3 h4 h5 hc hs
  · exact nomatch hw.1
theorem kSxr (X : teC Ts own cc nL ret D cy ba p s m args meth c) (hR : teR D cy ad ba O S H) (hS : va_S (teA ba) s.heap H locs) (hM : xP l y ws rm mc1 ms1 D cy ad ba O S As (.inr ())) (cw : CallB R s args own index y bytes maxL rt ws rm mc1 ms1 n ∧ (Cond.static y).before args s = true)
    (hn : As.length = n) (hst : st = As.reverse ++ rest) (hls : ls.size = nL) (hW : (rest.map fun v => v.category).sum ≤ 8) (hcs : cells + mc1 ≤ R.cells ∧ slots + ms1 ≤ R.slots) (hdg : decode cc pc = .ok (.invokestatic index, 3))
    (kk : ∀ (H1 : Heap) (locs1 : List Loc), teR D cy ad ba O S H1 → va_S (teA ba) s.heap H1 locs1 → W p l e R s m args below meth c H1 locs1 (cells + mc1) (slots + ms1) Q (F0 m (pc + 3) ls rest)) :
    W p l e R s m args below meth c H locs cells slots Q (F0 m pc ls st) := by
  have hpre := teU_at X hR hS As
  obtain ⟨hx, hb, hml, -, hown, hts, -, hK, hF⟩ := X
  subst hst
  refine vx_callv (vx_runS (As := As) (rest := rest) ⟨hx, hb, hml, hown, hts⟩ hM cw ⟨teU_blind, hpre⟩ rfl hn hls rfl (lv_room hW) hdg hcs) hS (fun q _ h => h) (fun q h => h) (fun q _ h => h) (fun E ce q9 u t H1 locs1 ht hvm _ hB hz1 hk1 hS1 h3 h4 h5 => ?_) (fun u t H1 locs1 ht hvm hw hB hz1 hk1 hS1 => ?_)
  · obtain ⟨⟨c1, h1, h2⟩, hR1⟩ := hB
    exact nomatch h2
  · obtain ⟨-, rfl⟩ := hw
    exact kk H1 locs1 (by rw [← ht]; exact hB) hS1
theorem kVxl (X : teC Ts own cc nL ret D cy ba p s m args meth c) (hN : ∀ x ∈ c.exceptionTable.toList, False) (hR : teR D cy ad ba O S H) (hS : va_S (teA ba) s.heap H locs) {c0 : Nat} {fs : List Value} {ci : Nat} {T : u_T} {N : Nat} (hM : xP l y ws rm mc1 ms1 D cy ad ba O S (.ref (ad id) :: As) (.inl c0)) (cw : CallW R s args own C index y bytes maxL rt ws rm mc1 ms1 n)
    (hid : id < 369) (hE : teE cy ad O S id = .inr (ci, fs)) (hc0 : vwCl[ci]? = some (C, T, N)) (hn : As.length = n) (hst : st = As.reverse ++ .ref (ad id) :: rest) (hls : ls.size = nL) (hW : (rest.map fun v => v.category).sum ≤ 8) (hcs : cells + mc1 ≤ R.cells ∧ slots + ms1 ≤ R.slots) (hc : cells + mc1 ≤ mc) (hs : slots + ms1 ≤ ms) (hdg : decode cc pc = .ok (.invokevirtual index, 3)) (he : ex c0) :
    W p l e R s m args below meth c H locs cells slots (vx_MQ below Qc (teXC D cy ad ba O S ex) args s mc ms (teA ba)) (F0 m pc ls st) := by
  have hrv := te_recv X hR hid hE hc0
  have hpre := teU_at X hR hS (.ref (ad id) :: As)
  have X' := X
  obtain ⟨hx, hb, hml, -, hown, hts, -, hK, hF⟩ := X
  subst hst
  refine vx_callv (vx_runV (As := As) (rest := rest) ⟨hx, hb, hml, hown, hts⟩ hM cw ⟨teU_blind, hrv, hpre⟩ rfl hn hls rfl (lv_room hW) hdg hcs) hS (fun q _ h => h) (fun q h => h) (fun q _ h => h) (fun E ce q9 u t H1 locs1 ht hvm _ hB hz1 hk1 hS1 h3 h4 h5 => ?_) (fun u t H1 locs1 ht hvm hw hB hz1 hk1 hS1 => ?_)
  · obtain ⟨⟨c1, h1, h2⟩, hR1⟩ := hB
    cases h2
    exact te_pass X' hN (by rw [← ht]; exact hR1) hS1 he h1 h3 h4 h5 hc hs
  · exact nomatch hw.1
theorem kVxr (X : teC Ts own cc nL ret D cy ba p s m args meth c) (hR : teR D cy ad ba O S H) (hS : va_S (teA ba) s.heap H locs) {fs : List Value} {ci : Nat} {T : u_T} {N : Nat} (hM : xP l y ws rm mc1 ms1 D cy ad ba O S (.ref (ad id) :: As) (.inr ())) (cw : CallW R s args own C index y bytes maxL rt ws rm mc1 ms1 n)
    (hid : id < 369) (hE : teE cy ad O S id = .inr (ci, fs)) (hc0 : vwCl[ci]? = some (C, T, N)) (hn : As.length = n) (hst : st = As.reverse ++ .ref (ad id) :: rest) (hls : ls.size = nL) (hW : (rest.map fun v => v.category).sum ≤ 8) (hcs : cells + mc1 ≤ R.cells ∧ slots + ms1 ≤ R.slots) (hdg : decode cc pc = .ok (.invokevirtual index, 3))
    (kk : ∀ (H1 : Heap) (locs1 : List Loc), teR D cy ad ba O S H1 → va_S (teA ba) s.heap H1 locs1 → W p l e R s m args below meth c H1 locs1 (cells + mc1) (slots + ms1) Q (F0 m (pc + 3) ls rest)) :
    W p l e R s m args below meth c H locs cells slots Q (F0 m pc ls st) := by
  have hrv := te_recv X hR hid hE hc0
  have hpre := teU_at X hR hS (.ref (ad id) :: As)
  obtain ⟨hx, hb, hml, -, hown, hts, -, hK, hF⟩ := X
  subst hst
  refine vx_callv (vx_runV (As := As) (rest := rest) ⟨hx, hb, hml, hown, hts⟩ hM cw ⟨teU_blind, hrv, hpre⟩ rfl hn hls rfl (lv_room hW) hdg hcs) hS (fun q _ h => h) (fun q h => h) (fun q _ h => h) (fun E ce q9 u t H1 locs1 ht hvm _ hB hz1 hk1 hS1 h3 h4 h5 => ?_) (fun u t H1 locs1 ht hvm hw hB hz1 hk1 hS1 => ?_)
  · obtain ⟨⟨c1, h1, h2⟩, hR1⟩ := hB
    exact nomatch h2
  · obtain ⟨-, rfl⟩ := hw
    exact kk H1 locs1 (by rw [← ht]; exact hB) hS1
/-- the ends of a body that may throw -/
theorem eIx (X : teC Ts own cc nL (some .int) D cy ba p s m args meth c) (hR : teR D cy ad ba O S H) (hS : va_S (teA ba) s.heap H locs) {v : Int32} {ok : Int32 → teS → Prop} {XC : String → State → State → Prop} (h1 : ok v S) (hc : cells ≤ mc) (hs : slots ≤ ms) (hdg : decode cc pc = .ok (.ireturn, 1)) :
    W p l e R s m args below meth c H locs cells slots (vx_MQ below (va_Qi ok (fun u t => teR D cy ad ba O u t.heap) (teA ba)) XC args s mc ms (teA ba)) (F0 m pc ls [.int v]) := by
  obtain ⟨hx, hb, hml, hr, hown, hts, hlocks, hK, hF⟩ := X
  exact W.widen hc hs (vx_ret (W.iret hx hb hr (fun t ht hW => ⟨⟨v, S, rfl, h1, te_hp ht hR⟩, hS.F ht⟩) hS.2.2 hdg))
theorem eVx (X : teC Ts own cc nL none D cy ba p s m args meth c) (hR : teR D cy ad ba O S H) (hS : va_S (teA ba) s.heap H locs) {ok : teS → Prop} {XC : String → State → State → Prop} (h1 : ok S) (hc : cells ≤ mc) (hs : slots ≤ ms) (hdg : decode cc pc = .ok (.return_, 1)) :
    W p l e R s m args below meth c H locs cells slots (vx_MQ below (va_Qv ok (fun u t => teR D cy ad ba O u t.heap) (teA ba)) XC args s mc ms (teA ba)) (F0 m pc ls []) := by
  obtain ⟨hx, hb, hml, hr, hown, hts, hlocks, hK, hF⟩ := X
  exact W.widen hc hs (vx_ret (W.vret hx hb hr (fun t ht hW => ⟨⟨S, rfl, h1, te_hp ht hR⟩, hS.F ht⟩) hS.2.2 hdg))
/-- the levels of a member are copied -/
theorem rc_lev (X : teC Ts own cc nL ret D cy ba p s m args meth c) (hR : teR D cy ad ba O S H) (hS : va_S (teA ba) s.heap H locs) {k a k2 a2 : Nat} (hk : k < 18) (ha : a < 9) (hk2 : k2 < 18) (ha2 : a2 < 9) {index : Nat} (w1 : Cond.methodLink own index arraycopyName ∈ Ts) (w2 : Cond.native arraycopyName ∈ Ts) (w3 : Cond.static arraycopyName ∈ Ts) (w4 : Cond.initialized "java/lang/System" ∈ Ts) (hls : ls.size = nL) (hf : 1 ≤ R.frames) (hlo : (rest.map fun v => v.category).sum + (nativeFrameWords "java/lang/System" "arraycopy" 5 + 11) ≤ R.locals) (hdg : decode cc pc = .ok (.invokestatic index, 3))
    (kk : ∀ (H1 : Heap) (locs1 : List Loc), teR D cy ad ba O (tecp S k a k2 a2) H1 → va_S (teA ba) s.heap H1 locs1 → W p l e R s m args below meth c H1 locs1 cells slots Q (F0 m (pc + 3) ls rest)) :
    W p l e R s m args below meth c H locs cells slots Q (F0 m pc ls (.int 4 :: .int 0 :: .ref (ad (20 * k + 11 + a)) :: .int 0 :: .ref (ad (20 * k2 + 11 + a2)) :: rest)) := by
  obtain ⟨hx, hb, hml, -, hown, hts, -, hK, hF⟩ := X
  obtain ⟨L, g, hP, hD, hcs, hi, hz⟩ := hR
  have hid : 20 * k + 11 + a < 369 := by omega
  have hid2 : 20 * k2 + 11 + a2 < 369 := by omega
  obtain ⟨q1, hq1⟩ := va_pl_get (X := []) (f := g) (hcs _ hid).1
  obtain ⟨q0, hq0⟩ := va_pl_get (X := []) (f := g) (hcs _ hid2).1
  rw [(hcs _ hid).2] at hq1
  rw [(hcs _ hid2).2, teE_levs cy ad O S hk2 ha2] at hq0
  have hq2 := hq1
  rw [teE_levs cy ad O S hk ha] at hq2
  refine va_copyi hx hb (hml.trans hls.symm) hown (hts _ w1) (hts _ w2) (hts _ w3) (hts _ w4) hK hP hD hS q0 q1 0 0 hq0 hq2 rfl rfl rfl (by decide) (by decide) (by decide) (by decide) (by decide) (fun i _ => rfl) hf hlo hdg (fun H1 locs1 hP1 hD1 hS1 => ?_)
  refine kk H1 locs1 (te_upd hD hcs hi hid hq1 (Nat.le_trans hF.2.2.2.2 hS1.1) ((teE_levs cy ad O _ hk ha).trans ?_) (fun i h1 h2 => teE_same cy ad O (fun k1 j1 hw => ?_)) hP1 hD1) hS1
  · congr 4
    funext j
    have e0 : (0 : Int32).toNatClampNeg = 0 := rfl
    have e4 : (4 : Int32).toNatClampNeg = 4 := rfl
    dsimp only [va_cpy, tecp]
    rw [e0, e4]
    by_cases h2 : j < 4
    · rw [if_pos h2, if_pos ⟨rfl, by omega, by omega⟩, if_pos ⟨Nat.zero_le _, by omega⟩, if_pos (by omega)]
      congr 1
      omega
    · rw [if_neg h2, if_neg (by omega), if_neg h2]
  · unfold tecp
    rw [if_neg]
    rintro ⟨h3, h4, h5⟩
    unfold teW at hw
    split at hw <;> omega
end TETHR
section TEOFX
variable {l : Launch} {y : MethodName} {ws ws' : List Cond} {rm : Room} {D : va_G} {cy : Nat → ClassId} {ad : Nat → Nat} {ba : Nat → Prop} {O : Int64} {S S1 : teS} {av : List Value} {cc : ByteArray} {maxL : Nat} {ret : Option FieldType}
theorem te_ofx {Qc : Array Value → State → Outcome → State → Prop} {XC : String → State → State → Prop} {mc ms : Nat} {free : Addr → Prop} (hy : plainName y.cls = true) (hw : ws = Cond.code y cc maxL ret :: ws') (hv : (lg_sl av).length ≤ maxL)
    (body : ∀ (p : Program) (e : Env) (s : State) (m : MethodId) (below : List Frame) (meth : Method) (c : Code) (ls : Array Slot), teC ws y.cls cc maxL ret D cy ba p s m av.toArray meth c → (∀ x ∈ c.exceptionTable.toList, False) → teR D cy ad ba O S s.heap → va_S (teA ba) s.heap s.heap [] → lv_has ls maxL (lv_args 0 av) →
      W p l e (headSpec ws rm).room s m av.toArray below meth c s.heap [] 0 0 (vx_MQ below Qc XC av.toArray s mc ms free) (F0 m 0 ls [])) : vx_Met l y ws rm (va_Pc av (teU D cy ad ba O S)) Qc XC mc ms free := by
  refine vx_ofW (cc := cc) (maxL := maxL) (ret := ret) hy hw ?_
  intro p e s m args below meth c s₁ B hml hN hv2
  obtain ⟨rfl, hK, hF, hR⟩ := hv2
  have X : teC ws y.cls cc maxL ret D cy ba p s m av.toArray meth c := ⟨B.exec, B.bytes, hml, B.returns, findClass_of_methodNamed B.named, atoms_spec (ws := ws) B.pre, B.notSynchronized, hK, hF⟩
  have hl := lv_entry av (n := maxL) hv
  rw [lg_entry_eq]
  exact body p e s m below meth c _ X hN hR va_S.rf hl
end TEOFX
