/-- the contract of one of the law's own methods that catch: the answer, the numbers -/
abbrev lT (l : Launch) (y : MethodName) (ws : List Cond) (rm : Room) (mc ms : Nat) (D : va_G) (cy : Nat → ClassId) (ad : Nat → Nat) (ba : Nat → Prop) (O : Int64) (S : teS) (av : List Value) (res : Int32 × teS) : Prop :=
  vx_Met l y ws rm (va_Pc av (teU D cy ad ba O S)) (va_Qi (fun a (u : teS) => a = res.1 ∧ u = res.2) (fun u t => teR D cy ad ba O u t.heap) (teA ba)) (vx_X (fun _ : Unit => False) (fun _ _ _ => True) (teA ba)) mc ms (teA ba)
section TELAW
variable {p : Program} {l : Launch} {e : Env} {R : Room} {s : State} {m : MethodId} {args : Array Value} {below : List Frame} {meth : Method} {c : Code} {H : Heap} {locs : List Loc} {cells slots : Nat} {Q : State → Prop}
variable {Ts : List Cond} {own : String} {cc : ByteArray} {nL : Nat} {ret : Option FieldType} {D : va_G} {cy : Nat → ClassId} {ad : Nat → Nat} {ba : Nat → Prop} {O : Int64} {S S0 S1 : teS} {pc : Nat} {ls : Array Slot} {st rest As : List Value} {id : Nat}
variable {y : MethodName} {bytes : ByteArray} {maxL mc ms mc1 ms1 n index : Nat} {rt : Option FieldType} {ws : List Cond} {rm : Room} {C : String}
/-- a call that throws: what was thrown lies in the heap -/
theorem kVql (X : teC Ts own cc nL ret D cy ba p s m args meth c) (hR : teR D cy ad ba O S H) (hS : va_S (teA ba) s.heap H locs) {c0 : Nat} {fs : List Value} {ci : Nat} {T : u_T} {N : Nat} (hM : xQ l y ws rm mc1 ms1 D cy ad ba O S (.ref (ad id) :: As) (.inl c0)) (cw : CallW R s args own C index y bytes maxL rt ws rm mc1 ms1 n)
    (hid : id < 369) (hE : teE cy ad O S id = .inr (ci, fs)) (hc0 : vwCl[ci]? = some (C, T, N)) (hn : As.length = n) (hst : st = As.reverse ++ .ref (ad id) :: rest) (hls : ls.size = nL) (hW : (rest.map fun v => v.category).sum ≤ 8) (hcs : cells + mc1 ≤ R.cells ∧ slots + ms1 ≤ R.slots) (hdg : decode cc pc = .ok (.invokevirtual index, 3))
    (kx : ∀ (ce : Cell) (q9 : Addr) (H1 : Heap) (locs1 : List Loc), teR D cy ad ba O S H1 → va_S (teA ba) s.heap H1 locs1 → H1[q9]? = some ce → ce.vm = .none → s.vm.findClass (teN c0) = some ce.cls → vx_W p l e R s m args below meth c H1 locs1 (cells + mc1) (slots + ms1) Q (F0 m pc ls rest) q9) :
    W p l e R s m args below meth c H locs cells slots Q (F0 m pc ls st) := by
  have hrv := te_recv X hR hid hE hc0
  have hpre := teU_at X hR hS (.ref (ad id) :: As)
  obtain ⟨hx, hb, hml, -, hown, hts, -, hK, hF⟩ := X
  subst hst
  refine vx_calli (vx_runV (As := As) (rest := rest) ⟨hx, hb, hml, hown, hts⟩ hM cw ⟨teU_blind, hrv, hpre⟩ rfl hn hls rfl (lv_room hW) hdg hcs) hS (fun q _ h => h) (fun q h => h) (fun q _ h => h) (fun E ce q9 u t H1 locs1 ht hvm _ hB hz1 hk1 hS1 h3 h4 h5 => ?_) (fun r u t H1 locs1 ht hvm hw hB hz1 hk1 hS1 => ?_)
  · obtain ⟨⟨c1, h1, h2⟩, hR1⟩ := hB
    cases h2
    subst h1
    exact kx ce q9 H1 locs1 (by rw [← ht]; exact hR1) hS1 h3 h4 h5
  · exact nomatch hw
theorem kVqr (X : teC Ts own cc nL ret D cy ba p s m args meth c) (hR : teR D cy ad ba O S H) (hS : va_S (teA ba) s.heap H locs) {r0 : Int32} {S1 : teS} {fs : List Value} {ci : Nat} {T : u_T} {N : Nat} (hM : xQ l y ws rm mc1 ms1 D cy ad ba O S (.ref (ad id) :: As) (.inr (r0, S1))) (cw : CallW R s args own C index y bytes maxL rt ws rm mc1 ms1 n)
    (hid : id < 369) (hE : teE cy ad O S id = .inr (ci, fs)) (hc0 : vwCl[ci]? = some (C, T, N)) (hn : As.length = n) (hst : st = As.reverse ++ .ref (ad id) :: rest) (hls : ls.size = nL) (hW : (rest.map fun v => v.category).sum ≤ 8) (hcs : cells + mc1 ≤ R.cells ∧ slots + ms1 ≤ R.slots) (hdg : decode cc pc = .ok (.invokevirtual index, 3))
    (kk : ∀ (H1 : Heap) (locs1 : List Loc), teR D cy ad ba O S1 H1 → va_S (teA ba) s.heap H1 locs1 → W p l e R s m args below meth c H1 locs1 (cells + mc1) (slots + ms1) Q (F0 m (pc + 3) ls (.int r0 :: rest))) :
    W p l e R s m args below meth c H locs cells slots Q (F0 m pc ls st) := by
  have hrv := te_recv X hR hid hE hc0
  have hpre := teU_at X hR hS (.ref (ad id) :: As)
  obtain ⟨hx, hb, hml, -, hown, hts, -, hK, hF⟩ := X
  subst hst
  refine vx_calli (vx_runV (As := As) (rest := rest) ⟨hx, hb, hml, hown, hts⟩ hM cw ⟨teU_blind, hrv, hpre⟩ rfl hn hls rfl (lv_room hW) hdg hcs) hS (fun q _ h => h) (fun q h => h) (fun q _ h => h) (fun E ce q9 u t H1 locs1 ht hvm _ hB hz1 hk1 hS1 h3 h4 h5 => ?_) (fun r u t H1 locs1 ht hvm hw hB hz1 hk1 hS1 => ?_)
  · obtain ⟨⟨c1, h1, h2⟩, hR1⟩ := hB
    exact nomatch h2
  · cases hw
    exact kk H1 locs1 (by rw [← ht]; exact hB) hS1
/-- caught: by the row of the table that names the class -/
theorem te_catch (X : teC Ts own cc nL ret D cy ba p s m args meth c) {hh : List (Nat × Nat × Nat × Nat)} (htab : c.exceptionTable.toList = tableOf hh) (pre suf : List (Nat × Nat × Nat × Nat)) (x : Nat × Nat × Nat × Nat) (hsp : hh = pre ++ x :: suf) {c0 : Nat} (h1 : 1 ≤ c0) (h4 : c0 < 4)
    (hpass : ∀ z ∈ pre, z.2.2.2 ≠ 0 ∧ ∃ j : Nat, 1 ≤ j ∧ j < 4 ∧ c0 ≠ j ∧ Cond.classLink own z.2.2.2 (teN j) ∈ Ts) (hcov : covers ⟨x.1, x.2.1, x.2.2.1, x.2.2.2⟩ pc = true) (h0 : x.2.2.2 ≠ 0) (hlink : Cond.classLink own x.2.2.2 (teN c0) ∈ Ts) {ce : Cell} {q9 : Addr}
    (hcell : H[q9]? = some ce) (hv : ce.vm = .none) (hcl : s.vm.findClass (teN c0) = some ce.cls) (kk : W p l e R s m args below meth c H locs cells slots Q (F0 m x.2.2.1 ls [.ref q9])) : vx_W p l e R s m args below meth c H locs cells slots Q (F0 m pc ls rest) q9 := by
  obtain ⟨hx, hb, hml, -, hown, hts, -, hK, hF⟩ := X
  have hcast : (Cond.castable (teN c0) (teN c0)).before args s = true := by
    have hh := hF.2.2.1
    rcases (show c0 = 1 ∨ c0 = 2 ∨ c0 = 3 by omega) with rfl | rfl | rfl
    · exact va_Nw.use rfl hh.1
    · exact va_Nw.use rfl hh.2.1
    · exact va_Nw.use rfl hh.2.2.1
  refine vx_catch (name := teN c0) hown (tableOf pre) ⟨x.1, x.2.1, x.2.2.1, x.2.2.2⟩ (tableOf suf) ?_ ?_ hcov h0 (hts _ hlink) hcast hcell hv hcl kk
  · rw [htab, hsp]
    simp [tableOf]
  · intro z hz
    obtain ⟨q, hq, rfl⟩ := List.mem_map.mp hz
    obtain ⟨g1, j, g2, g3, g4, g5⟩ := hpass q hq
    exact Or.inr ⟨g1, teN j, hts _ g5, hF.2.2.1.2.2.2.1 c0 j h1 h4 g2 g3 g4⟩
theorem eTx (X : teC Ts own cc nL (some .int) D cy ba p s m args meth c) (hR : teR D cy ad ba O S H) (hS : va_S (teA ba) s.heap H locs) {v : Int32} {res : Int32 × teS} {XC : String → State → State → Prop} (h1 : (v, S) = res) (hc : cells ≤ mc) (hs : slots ≤ ms) (hdg : decode cc pc = .ok (.ireturn, 1)) :
    W p l e R s m args below meth c H locs cells slots (vx_MQ below (va_Qi (fun a (u : teS) => a = res.1 ∧ u = res.2) (fun u t => teR D cy ad ba O u t.heap) (teA ba)) XC args s mc ms (teA ba)) (F0 m pc ls [.int v]) := by
  obtain ⟨hx, hb, hml, hr, hown, hts, hlocks, hK, hF⟩ := X
  subst h1
  exact W.widen hc hs (vx_ret (W.iret hx hb hr (fun t ht hW => ⟨⟨v, S, rfl, ⟨rfl, rfl⟩, te_hp ht hR⟩, hS.F ht⟩) hS.2.2 hdg))
end TELAW
section TEOFH
variable {l : Launch} {y : MethodName} {ws ws' : List Cond} {rm : Room} {D : va_G} {cy : Nat → ClassId} {ad : Nat → Nat} {ba : Nat → Prop} {O : Int64} {S S1 : teS} {av : List Value} {cc : ByteArray} {maxL : Nat} {ret : Option FieldType}
theorem te_ofh {Qc : Array Value → State → Outcome → State → Prop} {XC : String → State → State → Prop} {mc ms : Nat} {free : Addr → Prop} {hh : List (Nat × Nat × Nat × Nat)} (hy : plainName y.cls = true) (hw : ws = Cond.codeWith y cc maxL ret hh :: ws') (hv : (lg_sl av).length ≤ maxL)
    (body : ∀ (p : Program) (e : Env) (s : State) (m : MethodId) (below : List Frame) (meth : Method) (c : Code) (ls : Array Slot), teC ws y.cls cc maxL ret D cy ba p s m av.toArray meth c → c.exceptionTable.toList = tableOf hh → teR D cy ad ba O S s.heap → va_S (teA ba) s.heap s.heap [] → lv_has ls maxL (lv_args 0 av) →
      W p l e (headSpec ws rm).room s m av.toArray below meth c s.heap [] 0 0 (vx_MQ below Qc XC av.toArray s mc ms free) (F0 m 0 ls [])) : vx_Met l y ws rm (va_Pc av (teU D cy ad ba O S)) Qc XC mc ms free := by
  refine vx_ofWH (cc := cc) (maxL := maxL) (ret := ret) (hh := hh) hy hw ?_
  intro p e s m args below meth c s₁ B hml hv2
  obtain ⟨rfl, hK, hF, hR⟩ := hv2
  have hts := atoms_spec (ws := ws) B.pre
  have X : teC ws y.cls cc maxL ret D cy ba p s m av.toArray meth c := ⟨B.exec, B.bytes, hml, B.returns, findClass_of_methodNamed B.named, hts, B.notSynchronized, hK, hF⟩
  have htab := vx_table (x := y) B (hts (Cond.codeWith y cc maxL ret hh) (by rw [hw]; exact List.mem_cons_self))
  have hl := lv_entry av (n := maxL) hv
  rw [lg_entry_eq]
  exact body p e s m below meth c _ X htab hR va_S.rf hl
end TEOFH
