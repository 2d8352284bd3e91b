theorem te_hp {D : va_G} {cy : Nat → ClassId} {ad : Nat → Nat} {ba : Nat → Prop} {O : Int64} {S : teS} {H : Heap} {t : State} (ht : t.heap = H) (hR : teR D cy ad ba O S H) : teR D cy ad ba O S t.heap := by rw [ht]; exact hR
/-- contracts: a method that returns an int, a long, nothing; that may throw -/
abbrev cI (l : Launch) (y : MethodName) (ws : List Cond) (rm : Room) (D : va_G) (cy : Nat → ClassId) (ad : Nat → Nat) (ba : Nat → Prop) (O : Int64) (S : teS) (av : List Value) (r : Int32) (S1 : teS) : Prop :=
  Met l y ws rm (va_Pc av (teU D cy ad ba O S)) (va_Qi (fun a (u : teS) => a = r ∧ u = S1) (fun u t => teR D cy ad ba O u t.heap) (teA ba)) 0 0 (teA ba)
abbrev cJ (l : Launch) (y : MethodName) (ws : List Cond) (rm : Room) (D : va_G) (cy : Nat → ClassId) (ad : Nat → Nat) (ba : Nat → Prop) (O : Int64) (S : teS) (av : List Value) (r : Int64) (S1 : teS) : Prop :=
  Met l y ws rm (va_Pc av (teU D cy ad ba O S)) (va_Ql (fun a (u : teS) => a = r ∧ u = S1) (fun u t => teR D cy ad ba O u t.heap) (teA ba)) 0 0 (teA ba)
abbrev cV (l : Launch) (y : MethodName) (ws : List Cond) (rm : Room) (D : va_G) (cy : Nat → ClassId) (ad : Nat → Nat) (ba : Nat → Prop) (O : Int64) (S : teS) (av : List Value) (S1 : teS) : Prop :=
  Met l y ws rm (va_Pc av (teU D cy ad ba O S)) (va_Qv (fun (u : teS) => u = S1) (fun u t => teR D cy ad ba O u t.heap) (teA ba)) 0 0 (teA ba)
abbrev teXC (D : va_G) (cy : Nat → ClassId) (ad : Nat → Nat) (ba : Nat → Prop) (O : Int64) (S : teS) (ex : Nat → Prop) : String → State → State → Prop :=
  vx_X (fun _ : Unit => True) (fun E _ t => (∃ c, E = teN c ∧ ex c) ∧ teR D cy ad ba O S t.heap) (teA ba)
abbrev xI (l : Launch) (y : MethodName) (ws : List Cond) (rm : Room) (mc ms : Nat) (D : va_G) (cy : Nat → ClassId) (ad : Nat → Nat) (ba : Nat → Prop) (O : Int64) (S : teS) (av : List Value) (ok : Int32 → teS → Prop) (ex : Nat → Prop) : Prop :=
  vx_Met l y ws rm (va_Pc av (teU D cy ad ba O S)) (va_Qi ok (fun u t => teR D cy ad ba O u t.heap) (teA ba)) (teXC D cy ad ba O S ex) mc ms (teA ba)
abbrev xV (l : Launch) (y : MethodName) (ws : List Cond) (rm : Room) (mc ms : Nat) (D : va_G) (cy : Nat → ClassId) (ad : Nat → Nat) (ba : Nat → Prop) (O : Int64) (S : teS) (av : List Value) (ok : teS → Prop) (ex : Nat → Prop) : Prop :=
  vx_Met l y ws rm (va_Pc av (teU D cy ad ba O S)) (va_Qv ok (fun u t => teR D cy ad ba O u t.heap) (teA ba)) (teXC D cy ad ba O S ex) mc ms (teA ba)
theorem teU_blind {D : va_G} {cy : Nat → ClassId} {ad : Nat → Nat} {ba : Nat → Prop} {O : Int64} {S : teS} {av : List Value} : FrameBlind (va_Pc av (teU D cy ad ba O S)) := by
  intro a U g mk q
  obtain ⟨q1, qK, ⟨f1, f2, f3, f4, f5⟩, qR⟩ := q
  have hal : U.vm.Alike (U.calling g mk a).vm := Vm.Alike.refl U.vm
  exact ⟨q1, va_K.moved (u := U) (U := U.calling g mk a) hal qK, ⟨vx_Zq.moved (U := U.calling g mk a) hal f1, vx_Zq.moved (U := U.calling g mk a) hal f2, ⟨va_Nw.same rfl (u := U) (U := U.calling g mk a) rfl f3.1, va_Nw.same rfl (u := U) (U := U.calling g mk a) rfl f3.2.1, va_Nw.same rfl (u := U) (U := U.calling g mk a) rfl f3.2.2.1, fun i j h1 h2 h3 h4 h5 => va_Nc.moved (U := U.calling g mk a) hal (f3.2.2.2.1 i j h1 h2 h3 h4 h5), fun Y hY => va_Nw.same rfl (u := U) (U := U.calling g mk a) rfl (f3.2.2.2.2 Y hY)⟩, fun q hq => (f4 q hq).elim fun sa z => ⟨sa, vk_R.same (u := U) (U := U.calling g mk a) rfl z⟩, f5⟩, qR⟩
section TECALL
variable {p : Program} {l : Launch} {e : Env} {R : Room} {s : State} {m : MethodId} {args : Array Value} {below : List Frame} {meth : Method} {c : Code} {H : Heap} {locs : List Loc} {cells slots : Nat} {Q : State → Prop}
variable {Ts : List Cond} {own : String} {cc : ByteArray} {nL : Nat} {ret : Option FieldType} {D : va_G} {cy : Nat → ClassId} {ad : Nat → Nat} {ba : Nat → Prop} {O : Int64} {S S1 : teS} {pc : Nat} {ls : Array Slot} {st rest As : List Value} {id : Nat}
variable {y : MethodName} {bytes : ByteArray} {maxL mc ms n index : Nat} {rt : Option FieldType} {ws : List Cond} {rm : Room} {C : String}
theorem teU_at (X : teC Ts own cc nL ret D cy ba p s m args meth c) (hR : teR D cy ad ba O S H) (hS : va_S (teA ba) s.heap H locs) (av : List Value) : ∀ U : State, U.heap = H → s.WarmedH U.vm → va_Pc av (teU D cy ad ba O S) av.toArray U := by
  obtain ⟨-, -, -, -, -, -, -, hK, hF⟩ := X
  intro U hU hW
  exact ⟨rfl, va_K.moved hW.alike hK, by rw [hU]; exact teF_moved hW (teF_S hF hS), by rw [hU]; exact hR⟩
theorem te_recv (X : teC Ts own cc nL ret D cy ba p s m args meth c) (hR : teR D cy ad ba O S H) (hid : id < 369) {ci : Nat} {fs : List Value} {q : vw_C} (hE : teE cy ad O S id = .inr (ci, fs)) (hc : vwCl[ci]? = some q) : ∃ cell : Cell, H[ad id]? = some cell ∧ cell.vm.isStatics = false ∧ s.vm.findClass q.1 = some cell.cls := by
  obtain ⟨hx, hb, -, -, hown, hts, -, hK, -⟩ := X
  obtain ⟨L, f, q0, hP, hq⟩ := te_cell hR hid
  rw [hE] at hq
  exact va_recv hK hP hc hq
theorem kVi (X : teC Ts own cc nL ret D cy ba p s m args meth c) (hR : teR D cy ad ba O S H) (hS : va_S (teA ba) s.heap H locs) {r : Int32} {S1 : teS} {fs : List Value} {ci : Nat} {T : u_T} {N : Nat} (hM : cI l y ws rm D cy ad ba O S (.ref (ad id) :: As) r S1) (cw : CallW R s args own C index y bytes maxL rt ws rm 0 0 n)
    (hid : id < 369) (hE : teE cy ad O S id = .inr (ci, fs)) (hc : vwCl[ci]? = some (C, T, N)) (hn : As.length = n) (hst : st = As.reverse ++ .ref (ad id) :: rest) (hls : ls.size = nL) (hW : (rest.map fun v => v.category).sum ≤ 8) (hcs : cells ≤ R.cells ∧ slots ≤ R.slots) (hdg : decode cc pc = .ok (.invokevirtual index, 3))
    (kk : ∀ (H1 : Heap) (locs1 : List Loc), teR D cy ad ba O S1 H1 → va_S (teA ba) s.heap H1 locs1 → W p l e R s m args below meth c H1 locs1 cells slots Q (F0 m (pc + 3) ls (.int r :: rest))) : W p l e R s m args below meth c H locs cells slots Q (F0 m pc ls st) := by
  have hrv := te_recv X hR hid hE hc
  have hpre := teU_at X hR hS (.ref (ad id) :: As)
  obtain ⟨hx, hb, hml, -, hown, hts, -, hK, hF⟩ := X
  subst hst
  refine va_calli (va_runV (As := As) (rest := rest) ⟨hx, hb, hml, hown, hts⟩ hM cw ⟨teU_blind, hrv, hpre⟩ rfl hn hls rfl (lv_room hW) hdg hcs) hS (fun q _ h => h) (fun q h => h) (fun r2 u t H1 locs1 ht hvm hw hB hz1 hk1 hS1 => ?_)
  obtain ⟨rfl, rfl⟩ := hw
  exact kk H1 locs1 (by rw [← ht]; exact hB) hS1
theorem kVv (X : teC Ts own cc nL ret D cy ba p s m args meth c) (hR : teR D cy ad ba O S H) (hS : va_S (teA ba) s.heap H locs) {S1 : teS} {fs : List Value} {ci : Nat} {T : u_T} {N : Nat} (hM : cV l y ws rm D cy ad ba O S (.ref (ad id) :: As) S1) (cw : CallW R s args own C index y bytes maxL rt ws rm 0 0 n)
    (hid : id < 369) (hE : teE cy ad O S id = .inr (ci, fs)) (hc : vwCl[ci]? = some (C, T, N)) (hn : As.length = n) (hst : st = As.reverse ++ .ref (ad id) :: rest) (hls : ls.size = nL) (hW : (rest.map fun v => v.category).sum ≤ 8) (hcs : cells ≤ R.cells ∧ slots ≤ R.slots) (hdg : decode cc pc = .ok (.invokevirtual index, 3))
    (kk : ∀ (H1 : Heap) (locs1 : List Loc), teR D cy ad ba O S1 H1 → va_S (teA ba) s.heap H1 locs1 → W p l e R s m args below meth c H1 locs1 cells slots Q (F0 m (pc + 3) ls rest)) : W p l e R s m args below meth c H locs cells slots Q (F0 m pc ls st) := by
  have hrv := te_recv X hR hid hE hc
  have hpre := teU_at X hR hS (.ref (ad id) :: As)
  obtain ⟨hx, hb, hml, -, hown, hts, -, hK, hF⟩ := X
  subst hst
  refine va_callv (va_runV (As := As) (rest := rest) ⟨hx, hb, hml, hown, hts⟩ hM cw ⟨teU_blind, hrv, hpre⟩ rfl hn hls rfl (lv_room hW) hdg hcs) hS (fun q _ h => h) (fun q h => h) (fun u t H1 locs1 ht hvm hw hB hz1 hk1 hS1 => ?_)
  obtain rfl := hw
  exact kk H1 locs1 (by rw [← ht]; exact hB) hS1
theorem kSi (X : teC Ts own cc nL ret D cy ba p s m args meth c) (hR : teR D cy ad ba O S H) (hS : va_S (teA ba) s.heap H locs) {r : Int32} {S1 : teS} (hM : cI l y ws rm D cy ad ba O S As r S1) (cw : CallB R s args own index y bytes maxL rt ws rm 0 0 n ∧ (Cond.static y).before args s = true)
    (hn : As.length = n) (hst : st = As.reverse ++ rest) (hls : ls.size = nL) (hW : (rest.map fun v => v.category).sum ≤ 8) (hcs : cells ≤ R.cells ∧ slots ≤ R.slots) (hdg : decode cc pc = .ok (.invokestatic index, 3))
    (kk : ∀ (H1 : Heap) (locs1 : List Loc), teR D cy ad ba O S1 H1 → va_S (teA ba) s.heap H1 locs1 → W p l e R s m args below meth c H1 locs1 cells slots Q (F0 m (pc + 3) ls (.int r :: rest))) : W p l e R s m args below meth c H locs cells slots Q (F0 m pc ls st) := by
  have hpre := teU_at X hR hS As
  obtain ⟨hx, hb, hml, -, hown, hts, -, hK, hF⟩ := X
  subst hst
  refine va_calli (va_runS (As := As) (rest := rest) ⟨hx, hb, hml, hown, hts⟩ hM cw ⟨teU_blind, hpre⟩ rfl hn hls rfl (lv_room hW) hdg hcs) hS (fun q _ h => h) (fun q h => h) (fun r2 u t H1 locs1 ht hvm hw hB hz1 hk1 hS1 => ?_)
  obtain ⟨rfl, rfl⟩ := hw
  exact kk H1 locs1 (by rw [← ht]; exact hB) hS1
theorem kSl (X : teC Ts own cc nL ret D cy ba p s m args meth c) (hR : teR D cy ad ba O S H) (hS : va_S (teA ba) s.heap H locs) {r : Int64} {S1 : teS} (hM : cJ l y ws rm D cy ad ba O S As r S1) (cw : CallB R s args own index y bytes maxL rt ws rm 0 0 n ∧ (Cond.static y).before args s = true)
    (hn : As.length = n) (hst : st = As.reverse ++ rest) (hls : ls.size = nL) (hW : (rest.map fun v => v.category).sum ≤ 8) (hcs : cells ≤ R.cells ∧ slots ≤ R.slots) (hdg : decode cc pc = .ok (.invokestatic index, 3))
    (kk : ∀ (H1 : Heap) (locs1 : List Loc), teR D cy ad ba O S1 H1 → va_S (teA ba) s.heap H1 locs1 → W p l e R s m args below meth c H1 locs1 cells slots Q (F0 m (pc + 3) ls (.long r :: rest))) : W p l e R s m args below meth c H locs cells slots Q (F0 m pc ls st) := by
  have hpre := teU_at X hR hS As
  obtain ⟨hx, hb, hml, -, hown, hts, -, hK, hF⟩ := X
  subst hst
  refine va_calll (va_runS (As := As) (rest := rest) ⟨hx, hb, hml, hown, hts⟩ hM cw ⟨teU_blind, hpre⟩ rfl hn hls rfl (lv_room hW) hdg hcs) hS (fun q _ h => h) (fun q h => h) (fun r2 u t H1 locs1 ht hvm hw hB hz1 hk1 hS1 => ?_)
  obtain ⟨rfl, rfl⟩ := hw
  exact kk H1 locs1 (by rw [← ht]; exact hB) hS1
theorem kSv (X : teC Ts own cc nL ret D cy ba p s m args meth c) (hR : teR D cy ad ba O S H) (hS : va_S (teA ba) s.heap H locs) {S1 : teS} (hM : cV l y ws rm D cy ad ba O S As S1) (cw : CallB R s args own index y bytes maxL rt ws rm 0 0 n ∧ (Cond.static y).before args s = true)
    (hn : As.length = n) (hst : st = As.reverse ++ rest) (hls : ls.size = nL) (hW : (rest.map fun v => v.category).sum ≤ 8) (hcs : cells ≤ R.cells ∧ slots ≤ R.slots) (hdg : decode cc pc = .ok (.invokestatic index, 3))
    (kk : ∀ (H1 : Heap) (locs1 : List Loc), teR D cy ad ba O S1 H1 → va_S (teA ba) s.heap H1 locs1 → W p l e R s m args below meth c H1 locs1 cells slots Q (F0 m (pc + 3) ls rest)) : W p l e R s m args below meth c H locs cells slots Q (F0 m pc ls st) := by
  have hpre := teU_at X hR hS As
  obtain ⟨hx, hb, hml, -, hown, hts, -, hK, hF⟩ := X
  subst hst
  refine va_callv (va_runS (As := As) (rest := rest) ⟨hx, hb, hml, hown, hts⟩ hM cw ⟨teU_blind, hpre⟩ rfl hn hls rfl (lv_room hW) hdg hcs) hS (fun q _ h => h) (fun q h => h) (fun u t H1 locs1 ht hvm hw hB hz1 hk1 hS1 => ?_)
  obtain rfl := hw
  exact kk H1 locs1 (by rw [← ht]; exact hB) hS1
/-- the ends of a body -/
theorem eI (X : teC Ts own cc nL (some .int) D cy ba p s m args meth c) (hR : teR D cy ad ba O S H) (hS : va_S (teA ba) s.heap H locs) {v r : Int32} {S1 : teS} (h1 : v = r) (h2 : S = S1) (hdg : decode cc pc = .ok (.ireturn, 1)) :
    W p l e R s m args below meth c H locs cells slots (MQ below (va_Qi (fun a (u : teS) => a = r ∧ u = S1) (fun u t => teR D cy ad ba O u t.heap) (teA ba)) args s cells slots (teA ba)) (F0 m pc ls [.int v]) := by
  obtain ⟨hx, hb, hml, hr, hown, hts, hlocks, hK, hF⟩ := X
  exact W.iret hx hb hr (fun t ht hW => ⟨⟨v, S, rfl, ⟨h1, h2⟩, te_hp ht hR⟩, hS.F ht⟩) hS.2.2 hdg
theorem eZ (X : teC Ts own cc nL (some .boolean) D cy ba p s m args meth c) (hR : teR D cy ad ba O S H) (hS : va_S (teA ba) s.heap H locs) {v r : Int32} {S1 : teS} (h0 : v &&& 1 = v) (h1 : v = r) (h2 : S = S1) (hdg : decode cc pc = .ok (.ireturn, 1)) :
    W p l e R s m args below meth c H locs cells slots (MQ below (va_Qi (fun a (u : teS) => a = r ∧ u = S1) (fun u t => teR D cy ad ba O u t.heap) (teA ba)) args s cells slots (teA ba)) (F0 m pc ls [.int v]) := by
  obtain ⟨hx, hb, hml, hr, hown, hts, hlocks, hK, hF⟩ := X
  exact W.zret hx hb hr (by show Value.int (v &&& 1) = _; rw [h0]) (fun t ht hW => ⟨⟨v, S, rfl, ⟨h1, h2⟩, te_hp ht hR⟩, hS.F ht⟩) hS.2.2 hdg
theorem eJ (X : teC Ts own cc nL (some .long) D cy ba p s m args meth c) (hR : teR D cy ad ba O S H) (hS : va_S (teA ba) s.heap H locs) {v r : Int64} {S1 : teS} (h1 : v = r) (h2 : S = S1) (hdg : decode cc pc = .ok (.lreturn, 1)) :
    W p l e R s m args below meth c H locs cells slots (MQ below (va_Ql (fun a (u : teS) => a = r ∧ u = S1) (fun u t => teR D cy ad ba O u t.heap) (teA ba)) args s cells slots (teA ba)) (F0 m pc ls [.long v]) := by
  obtain ⟨hx, hb, hml, hr, hown, hts, hlocks, hK, hF⟩ := X
  exact W.lret hx hb hr (fun t ht hW => ⟨⟨v, S, rfl, ⟨h1, h2⟩, te_hp ht hR⟩, hS.F ht⟩) hS.2.2 hdg
theorem eV (X : teC Ts own cc nL none D cy ba p s m args meth c) (hR : teR D cy ad ba O S H) (hS : va_S (teA ba) s.heap H locs) {S1 : teS} (h2 : S = S1) (hdg : decode cc pc = .ok (.return_, 1)) :
    W p l e R s m args below meth c H locs cells slots (MQ below (va_Qv (fun (u : teS) => u = S1) (fun u t => teR D cy ad ba O u t.heap) (teA ba)) args s cells slots (teA ba)) (F0 m pc ls []) := by
  obtain ⟨hx, hb, hml, hr, hown, hts, hlocks, hK, hF⟩ := X
  exact W.vret hx hb hr (fun t ht hW => ⟨⟨S, rfl, h2, te_hp ht hR⟩, hS.F ht⟩) hS.2.2 hdg
end TECALL
section TEOF
variable {l : Launch} {y : MethodName} {ws ws' : List Cond} {rm : Room} {D : va_G} {cy : Nat → ClassId} {ad : Nat → Nat} {ba : Nat → Prop} {O : Int64} {S S1 : teS} {av : List Value} {cc : ByteArray} {maxL : Nat} {ret : Option FieldType}
/-- a body that begins at 0 meets the contract -/
theorem te_of {Qc : Array Value → State → Outcome → State → Prop} {mc ms : Nat} {free : Addr → Prop} (hy : plainName y.cls = true) (hw : ws = Cond.code y cc maxL ret :: ws') (hv : (lg_sl av).length ≤ maxL)
    (body : ∀ (p : Program) (e : Env) (s : State) (m : MethodId) (below : List Frame) (meth : Method) (c : Code) (ls : Array Slot), teC ws y.cls cc maxL ret D cy ba p s m av.toArray meth c → teR D cy ad ba O S s.heap → va_S (teA ba) s.heap s.heap [] → lv_has ls maxL (lv_args 0 av) →
      W p l e (headSpec ws rm).room s m av.toArray below meth c s.heap [] 0 0 (MQ below Qc av.toArray s mc ms free) (F0 m 0 ls [])) : Met l y ws rm (va_Pc av (teU D cy ad ba O S)) Qc mc ms free := by
  refine Met.ofW (cc := cc) (maxL := maxL) (ret := ret) hy hw ?_
  intro p e s m args below meth c s₁ B hml hv2
  obtain ⟨rfl, hK, hF, hR⟩ := hv2
  have X : teC ws y.cls cc maxL ret D cy ba p s m av.toArray meth c := ⟨B.exec, B.bytes, hml, B.returns, findClass_of_methodNamed B.named, atoms_spec (ws := ws) B.pre, B.notSynchronized, hK, hF⟩
  have hl := lv_entry av (n := maxL) hv
  rw [lg_entry_eq]
  exact body p e s m below meth c _ X hR va_S.rf hl
end TEOF
