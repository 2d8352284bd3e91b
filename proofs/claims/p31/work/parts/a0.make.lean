/-! MAKING the system: what a constructor rests on, and its rows -/
def tcN (U : State) : Prop := va_AO "TandemExchange$Member" U ∧ va_AO "TandemExchange$Circle" U ∧ va_Nw (.methodLinkNest RX1 17 yX3_init RX5) U ∧ va_Nw (.methodLinkNest RX5 11 yX4_init RX5) U ∧ va_Nw (.methodLinkNest RX5 43 yX0_init RX5) U
theorem tcN.blind {U : State} (g : JFrame) (mk : MethodId) (a : Array Value) (h : tcN U) : tcN (U.calling g mk a) :=
  ⟨va_AO.moved (u := U) (U := U.calling g mk a) (Vm.Alike.refl U.vm) h.1, va_AO.moved (u := U) (U := U.calling g mk a) (Vm.Alike.refl U.vm) h.2.1, va_Nw.same (u := U) (U := U.calling g mk a) rfl rfl h.2.2.1, va_Nw.same (u := U) (U := U.calling g mk a) rfl rfl h.2.2.2.1, va_Nw.same (u := U) (U := U.calling g mk a) rfl rfl h.2.2.2.2⟩
theorem tcN.warm {s U : State} (hW : s.WarmedH U.vm) (h : tcN s) : tcN U :=
  ⟨va_AO.moved hW.alike h.1, va_AO.moved hW.alike h.2.1, h.2.2.1.warmM hW, h.2.2.2.1.warmM hW, h.2.2.2.2.warmM hW⟩
/-- the contract of a constructor: from one cell, the cells that are laid -/
abbrev tcM (l : Launch) (D : va_G) (cy : Nat → ClassId) (y : MethodName) (ws : List Cond) (rm : Room) (h0 : Nat) (e0 : va_E) (post : va_W → Prop) (mc ms : Nat) : Prop := ∀ sz : Nat, Met l y ws rm (va_Pc [.ref h0] (fun U => U.heap.size = sz ∧ va_P D vwCl [(h0, e0)] U.heap ∧ va_K D vwCl (teT cy) U ∧ va_D (fun _ => True) [(h0, e0)] ∧ tcN U)) (va_Qv post (fun (w : va_W) t => va_P D vwCl w t.heap ∧ va_D (va_A [(h0, e0)] sz) w) (va_A [(h0, e0)] sz)) mc ms (va_A [(h0, e0)] sz)
/-- what holds all through a constructor's body -/
def tcX (D : va_G) (cy : Nat → ClassId) (own : String) (cc : ByteArray) (nL : Nat) (Ts : List Cond) (p : Program) (s : State) (m : MethodId) (args : Array Value) (meth : Method) (c : Code) : Prop :=
  p.tables.exec = Jvm.exec ∧ c.code = cc ∧ c.maxLocals = nL ∧ s.vm.findClass own = some m.cls ∧ (∀ w ∈ Ts, w.before args s = true) ∧ meth.sig.returnType = none ∧ meth.locks = false ∧ meth.name = "<init>" ∧ va_K D vwCl (teT cy) s ∧ tcN s
/-- the part of it that a law has too -/
def tcY (D : va_G) (cy : Nat → ClassId) (own : String) (cc : ByteArray) (nL : Nat) (Ts : List Cond) (p : Program) (s : State) (m : MethodId) (args : Array Value) (c : Code) : Prop :=
  p.tables.exec = Jvm.exec ∧ c.code = cc ∧ c.maxLocals = nL ∧ s.vm.findClass own = some m.cls ∧ (∀ w ∈ Ts, w.before args s = true) ∧ va_K D vwCl (teT cy) s ∧ tcN s
theorem tcX.y {D : va_G} {cy : Nat → ClassId} {own : String} {cc : ByteArray} {nL : Nat} {Ts : List Cond} {p : Program} {s : State} {m : MethodId} {args : Array Value} {meth : Method} {c : Code} (X : tcX D cy own cc nL Ts p s m args meth c) : tcY D cy own cc nL Ts p s m args c :=
  ⟨X.1, X.2.1, X.2.2.1, X.2.2.2.1, X.2.2.2.2.1, X.2.2.2.2.2.2.2.2.1, X.2.2.2.2.2.2.2.2.2⟩
theorem tc_join {D : va_G} {cl : List vw_C} {A0 : Nat → Prop} {wr w1 : va_W} {x : Nat × va_E} {H H1 : Heap} (hP : va_P D cl (wr ++ [x]) H) (hD : va_D A0 (wr ++ [x])) (hk : ∀ q : Nat, q < H.size → ¬ va_A [x] H.size q → H1[q]? = H[q]?) (hF : ∀ q, va_A [x] H.size q → A0 q) (hP1 : va_P D cl w1 H1) (hD1 : va_D (va_A [x] H.size) w1) : va_P D cl (wr ++ w1) H1 ∧ va_D A0 (wr ++ w1) := by
  have at' : ∀ (k : Nat) (q : Nat × va_E), wr[k]? = some q → (wr ++ [x])[k]? = some q := fun k q hq => by
    rw [List.getElem?_append_left (List.getElem?_eq_some_iff.mp hq).1]
    exact hq
  have apart : ∀ (k : Nat) (q : Nat × va_E), wr[k]? = some q → q.1 < H.size ∧ ¬ va_A [x] H.size q.1 := fun k q hq => by
    have hl := (hP k q (at' k q hq)).lt
    refine ⟨hl, fun h => ?_⟩
    rcases h with ⟨k2, e, h⟩ | h
    · have h0 : k2 = 0 := by
        have := (List.getElem?_eq_some_iff.mp h).1
        rw [List.length_singleton] at this
        omega
      subst h0
      have hx : x = (q.1, e) := Option.some.inj h
      have h2 : (wr ++ [x])[wr.length]? = some x := by
        rw [List.getElem?_append_right (Nat.le_refl _), Nat.sub_self]; rfl
      have h3 := hD.1 k wr.length q x (at' k q hq) h2 (by rw [hx])
      have h4 := (List.getElem?_eq_some_iff.mp hq).1
      omega
    · omega
  have hDr : va_D A0 wr := ⟨fun i j a b ha hb e => hD.1 i j a b (at' i a ha) (at' j b hb) e, fun k q hq => hD.2 k q (at' k q hq)⟩
  refine ⟨va_P.app (fun k q hq => (hP k q (at' k q hq)).kept (hk q.1 (apart k q hq).1 (apart k q hq).2)) hP1, va_D.app hDr (hD1.weaken (fun k q _ h => hF q.1 h)) (fun i j a b ha hb e => ?_)⟩
  exact (apart i a ha).2 (by rw [e]; exact hD1.2 j b hb)
theorem tc_same {U : State} {ty : FieldType} {cA cB : ClassId} (h1 : va_RA U cA ty) (h2 : va_RA U cB ty) : cA = cB := by
  cases ty with
  | object C =>
    obtain ⟨_, _, _, _, _, e1⟩ := h1
    obtain ⟨_, _, _, _, _, e2⟩ := h2
    exact Option.some.inj (e1.symm.trans e2)
  | _ => exact Option.some.inj (Eq.trans (Eq.symm h1) h2)
section TCMK
variable {p : Program} {l : Launch} {e : Env} {R : Room} {s : State} {m : MethodId} {args : Array Value} {below : List Frame} {meth : Method} {c : Code} {H H0 : Heap} {locs : List Loc} {cells slots : Nat} {Q : State → Prop}
variable {Ts : List Cond} {own : String} {cc : ByteArray} {nL : Nat} {D : va_G} {cy : Nat → ClassId} {pc : Nat} {ls : Array Slot} {rest : List Value} {A : Nat → Prop} {ww : va_W}
theorem tc_of {y : MethodName} {ws ws' : List Cond} {rm : Room} {h0 : Nat} {e0 : va_E} {post : va_W → Prop} {mc ms i1 : Nat} (hy : plainName y.cls = true) (hyn : y.name = "<init>") (hw : ws = Cond.code y cc nL none :: ws') (h1 : Cond.methodLink y.cls i1 objectInit ∈ ws) (h2 : Cond.instanceMethod objectInit ∈ ws) (h3 : Cond.code objectInit ⟨#[0xb1]⟩ 1 none ∈ ws) (d0 : decode cc 0 = .ok (.aload_n 0, 1)) (d1 : decode cc 1 = .ok (.invokespecial i1, 3)) (hn : 1 ≤ nL) (hR : 1 ≤ rm.frames ∧ 12 ≤ rm.locals)
    (body : ∀ (p : Program) (e : Env) (s : State) (m : MethodId) (args : Array Value) (below : List Frame) (meth : Method) (c : Code) (ls : Array Slot) (A : Nat → Prop), tcX D cy y.cls cc nL ws p s m args meth c → va_P D vwCl [(h0, e0)] s.heap → va_D A [(h0, e0)] → (∀ q : Nat, s.heap.size ≤ q → A q) → lv_has ls nL [(0, .ref h0)] →
      W p l e rm s m args below meth c s.heap [] 0 0 (MQ below (va_Qv post (fun (w : va_W) t => va_P D vwCl w t.heap ∧ va_D A w) A) args s mc ms A) (F0 m 4 ls [])) : tcM l D cy y ws rm h0 e0 post mc ms := by
  intro sz
  refine Met.ofW (cc := cc) (maxL := nL) (ret := none) hy hw ?_
  intro p e s m args below meth c s₁ B hml hv
  obtain ⟨rfl, hsz, hP, hK, hD0, hN⟩ := hv
  have hx := B.exec
  have hb := B.bytes
  have hr := B.returns
  have hts := atoms_spec (ws := ws) B.pre
  have hown : s.vm.findClass y.cls = some m.cls := findClass_of_methodNamed B.named
  have hlocks := B.notSynchronized
  have hin : meth.name = "<init>" := ((name_of_methodNamed B.named B.method).1).trans hyn
  subst hsz
  have hD := hD0.self (sz := s.heap.size)
  generalize hAe : va_A [(h0, e0)] s.heap.size = A at hD ⊢
  have hA : ∀ q : Nat, s.heap.size ≤ q → A q := fun q h => by rw [← hAe]; exact Or.inr h
  have hl := lv_entry ([.ref h0]) (n := nL) hn
  rw [lg_entry_eq]
  generalize (lg_sl ([.ref h0]) ++ List.replicate (nL - (lg_sl ([.ref h0])).length) Slot.unset).toArray = ls at hl ⊢
  have hl : lv_has ls nL [(0, .ref h0)] := hl
  refine lv_aload_n hx hb d0 rfl (lv_at hl 0 rfl) ?_
  refine W.objInit hx hb hown (hts _ h1) (hts _ h2) (hts _ h3) rfl (by rw [hml]; exact hl.1) rfl d1 hR.1 hR.2 ?_
  refine W.eq (g2 := F0 m 4 ls []) rfl ?_
  exact body p e s m _ below meth c ls A ⟨hx, hb, hml, hown, hts, hr, hlocks, hin, hK, hN⟩ hP hD hA hl
theorem tc_ret {post : va_W → Prop} {w : va_W} (X : tcX D cy own cc nL Ts p s m args meth c) (hP : va_P D vwCl w H) (hD : va_D A w) (hS : va_S A s.heap H locs) (hp : post w) (hdg : decode cc pc = .ok (.return_, 1)) : W p l e R s m args below meth c H locs cells slots (MQ below (va_Qv post (fun (w : va_W) t => va_P D vwCl w t.heap ∧ va_D A w) A) args s cells slots A) (F0 m pc ls []) :=
  W.vret X.1 X.2.1 X.2.2.2.2.2.1 (fun t ht _ => ⟨⟨w, rfl, hp, by rw [ht]; exact hP, hD⟩, hS.F ht⟩) hS.2.2 hdg X.2.2.2.2.2.2.1
theorem tc_put (X : tcX D cy own cc nL Ts p s m args meth c) {T : u_T} {N ci index k h0 : Nat} {fs : List Value} {tl : va_W} (hc : vwCl[ci]? = some (own, T, N)) (hin : ∀ w ∈ u_ws own T N, w ∈ Ts) (ty0 : Nat → FieldType) (hty : ∀ k, k < N → parseFieldDescriptor (T k).2.2.1 = some (ty0 k)) (hnm : ∀ a, a < N → ∀ b, b < N → a ≠ b → (T a).2.1 ≠ (T b).2.1) (hP : va_P D vwCl ((h0, .inr (ci, fs)) :: tl) H) (hD : va_D A ((h0, .inr (ci, fs)) :: tl)) (hS : va_S A H0 H locs) (hk : k < N) (hl : Cond.fieldLink own index own (T k).2.1 (T k).2.2.1 ∈ Ts) (hT : (T k).1 = own) (hfin : (T k).2.2.2 = true) {ty : FieldType} {v : Value} (hd : parseFieldDescriptor (T k).2.2.1 = some ty) (hn : narrow ty v = v) (hfit : fits ty v = true) (hlen : k < fs.length) (hdg : decode cc pc = .ok (.putfield index, 3))
    (kk : ∀ (H1 : Heap) (locs1 : List Loc), va_P D vwCl ((h0, .inr (ci, fs.set k v)) :: tl) H1 → va_D A ((h0, .inr (ci, fs.set k v)) :: tl) → va_S A H0 H1 locs1 → W p l e R s m args below meth c H1 locs1 cells slots Q (F0 m (pc + 3) ls rest)) : W p l e R s m args below meth c H locs cells slots Q (F0 m pc ls (v :: .ref h0 :: rest)) :=
  va_putF (D := D) (ci := ci) (v := v) (ty := ty) (C := own) (T := T) (N := N) X.1 X.2.1 X.2.2.2.2.1 hin ty0 hty hnm X.2.2.2.1 X.2.2.2.2.2.2.2.2.1 hP hD hS 0 rfl hc k hk (X.2.2.2.2.1 _ hl) (fun _ h9 => by rw [hT] at h9; exact h9) hfin X.2.2.2.2.2.2.2.1 hT hd hn hfit hlen hdg kk
theorem tc_newaL (X : tcY D cy own cc nL Ts p s m args c) {atype : ArrayType} {k N' : Nat} {a0 : vp_A} (harr : Cond.arrayClass (newarray.typeOf atype) ∈ Ts) (hk : (teT cy)[k]? = some (cy k, newarray.typeOf atype)) (hP : va_P D vwCl ww H) (hD : va_D A ww) (hS : va_S A H0 H locs) (hA : ∀ q, H0.size ≤ q → A q) {n : Int32} (ha : ∀ cA : ClassId, vp_cell cA a0 = arrV cA N' (fun _ => defaultValue (newarray.typeOf atype))) (hn : ¬ n < 0) (hN : n.toNatClampNeg = N') (hbytes : N' * componentBytes (newarray.typeOf atype) ≤ 536870912) (hcells : cells + 1 ≤ R.cells) (hslots : slots + N' ≤ R.slots) (hdg : decode cc pc = .ok (.newarray atype, 2))
    (kk : ∀ (q : Nat) (H1 : Heap), va_P D vwCl (ww ++ [(q, .inl (cy k, a0))]) H1 → va_D A (ww ++ [(q, .inl (cy k, a0))]) → va_S A H0 H1 locs → W p l e R s m args below meth c H1 locs (cells + 1) (slots + N') Q (F0 m (pc + 2) ls (.ref q :: rest))) : W p l e R s m args below meth c H locs cells slots Q (F0 m pc ls (.int n :: rest)) := by
  have hK := X.2.2.2.2.2.1
  refine va_newa (atype := atype) X.1 X.2.1 (X.2.2.2.2.1 _ harr) rfl hK hP hD hS hA ha hn hN hbytes hcells hslots hdg (fun q cA H1 hK1 hP1 hD1 hS1 => ?_)
  have e1 : cA = cy k := tc_same (hK1.2 6 _ rfl).2 (hK.2 k _ hk).2
  subst e1
  exact kk q H1 hP1 hD1 hS1
theorem tc_newa (X : tcX D cy own cc nL Ts p s m args meth c) {atype : ArrayType} {k N' : Nat} {a0 : vp_A} (harr : Cond.arrayClass (newarray.typeOf atype) ∈ Ts) (hk : (teT cy)[k]? = some (cy k, newarray.typeOf atype)) (hP : va_P D vwCl ww H) (hD : va_D A ww) (hS : va_S A H0 H locs) (hA : ∀ q, H0.size ≤ q → A q) {n : Int32} (ha : ∀ cA : ClassId, vp_cell cA a0 = arrV cA N' (fun _ => defaultValue (newarray.typeOf atype))) (hn : ¬ n < 0) (hN : n.toNatClampNeg = N') (hbytes : N' * componentBytes (newarray.typeOf atype) ≤ 536870912) (hcells : cells + 1 ≤ R.cells) (hslots : slots + N' ≤ R.slots) (hdg : decode cc pc = .ok (.newarray atype, 2))
    (kk : ∀ (q : Nat) (H1 : Heap), va_P D vwCl (ww ++ [(q, .inl (cy k, a0))]) H1 → va_D A (ww ++ [(q, .inl (cy k, a0))]) → va_S A H0 H1 locs → W p l e R s m args below meth c H1 locs (cells + 1) (slots + N') Q (F0 m (pc + 2) ls (.ref q :: rest))) : W p l e R s m args below meth c H locs cells slots Q (F0 m pc ls (.int n :: rest)) :=
  tc_newaL X.y harr hk hP hD hS hA ha hn hN hbytes hcells hslots hdg kk
theorem tc_newq (X : tcX D cy own cc nL Ts p s m args meth c) {C : String} {k N' index : Nat} (hclink : Cond.classLink own index C ∈ Ts) (hover : va_AO C s) (hk : (teT cy)[k]? = some (cy k, .object C)) (hP : va_P D vwCl ww H) (hD : va_D A ww) (hS : va_S A H0 H locs) (hA : ∀ q, H0.size ≤ q → A q) {n : Int32} (hn : ¬ n < 0) (hN : n.toNatClampNeg = N') (hbytes : N' * 4 ≤ 536870912) (hcells : cells + 1 ≤ R.cells) (hslots : slots + N' ≤ R.slots) (hdg : decode cc pc = .ok (.anewarray index, 3))
    (kk : ∀ (q : Nat) (H1 : Heap), va_P D vwCl (ww ++ [(q, .inl (cy k, N', .inr (.inr (.inr (.inr (fun _ => none))))))]) H1 → va_D A (ww ++ [(q, .inl (cy k, N', .inr (.inr (.inr (.inr (fun _ => none))))))]) → va_S A H0 H1 locs → W p l e R s m args below meth c H1 locs (cells + 1) (slots + N') Q (F0 m (pc + 3) ls (.ref q :: rest))) : W p l e R s m args below meth c H locs cells slots Q (F0 m pc ls (.int n :: rest)) := by
  have hK := X.2.2.2.2.2.2.2.2.1
  refine va_newq X.1 X.2.1 X.2.2.2.1 (X.2.2.2.2.1 _ hclink) hover hK hP hD hS hA hn hN hbytes hcells hslots hdg (fun q cA H1 hK1 hP1 hD1 hS1 => ?_)
  have e1 : cA = cy k := tc_same (hK1.2 6 _ rfl).2 (hK.2 k _ hk).2
  subst e1
  exact kk q H1 hP1 hD1 hS1
/-- new, dup, a constructor's call -/
theorem tc_mk0 (X : tcY D cy own cc nL Ts p s m args c) {C : String} {T : u_T} {N ci ix1 ix2 mc ms : Nat} {y : MethodName} {ws : List Cond} {rm : Room} {fs : List Value} {post : Nat → va_W → Prop}
    (hin : ∀ w ∈ u_ws C T N, w ∈ Ts) (ty : Nat → FieldType) (hty : ∀ k, k < N → parseFieldDescriptor (T k).2.2.1 = some (ty k)) (hcl : Cond.classLink own ix1 C ∈ Ts) (hinst : Cond.instantiable C N ∈ Ts) (hini : Cond.initialized C ∈ Ts) (hc : vwCl[ci]? = some (C, T, N)) (hfs : ∀ j, j < N → defaultValue (ty j) = vp_V fs j)
    (hP : va_P D vwCl ww H) (hD : va_D A ww) (hS : va_S A H0 H locs) (hA : ∀ q, H0.size ≤ q → A q) (hcells : cells + 1 + mc ≤ R.cells) (hslots : slots + N + ms ≤ R.slots) (d0 : decode cc pc = .ok (.new ix1, 3)) (d3 : decode cc (pc + 3) = .ok (.dup, 1))
    (hrun : ∀ (q : Nat) (H1 : Heap), va_P D vwCl [(q, .inr (ci, fs))] H1 → va_D A [(q, .inr (ci, fs))] → va_Run p l e R s m args below meth c H1 locs (cells + 1) (slots + N) mc ms (F0 m (pc + 3 + 1) ls (.ref q :: .ref q :: rest)) (.ref q :: rest) (va_Qv (post q) (fun (w : va_W) t => va_P D vwCl w t.heap ∧ va_D (va_A [(q, .inr (ci, fs))] H1.size) w) (va_A [(q, .inr (ci, fs))] H1.size) #[.ref q]) (va_A [(q, .inr (ci, fs))] H1.size))
    (kk : ∀ (q : Nat) (w1 : va_W) (H1 : Heap) (locs1 : List Loc), post q w1 → va_P D vwCl (ww ++ w1) H1 → va_D A (ww ++ w1) → va_S A H0 H1 locs1 → W p l e R s m args below meth c H1 locs1 (cells + 1 + mc) (slots + N + ms) Q (F0 m (pc + 7) ls (.ref q :: rest))) : W p l e R s m args below meth c H locs cells slots Q (F0 m pc ls rest) := by
  have hK := X.2.2.2.2.2.1
  refine va_new (ci := ci) (fs := fs) (C := C) (T := T) (N := N) X.1 X.2.1 X.2.2.2.2.1 hin ty hty X.2.2.2.1 (X.2.2.2.2.1 _ hcl) (X.2.2.2.2.1 _ hinst) (X.2.2.2.2.1 _ hini) hK hP hD hS hA hc hfs (by omega) (by omega) d0 (fun q H1 hP1 hD1 hS1 => ?_)
  refine lv_dup X.1 X.2.1 d3 rfl ?_
  have hlast : (ww ++ [(q, (Sum.inr (ci, fs) : va_E))])[ww.length]? = some (q, .inr (ci, fs)) := by
    rw [List.getElem?_append_right (Nat.le_refl _), Nat.sub_self]; rfl
  have h1 : ∀ (k : Nat) (x : Nat × va_E), [(q, (Sum.inr (ci, fs) : va_E))][k]? = some x → k = 0 ∧ x = (q, .inr (ci, fs)) := fun k x hx => by
    have h2 := (List.getElem?_eq_some_iff.mp hx).1
    rw [List.length_singleton] at h2
    have h0 : k = 0 := by omega
    subst h0
    exact ⟨rfl, (Option.some.inj hx).symm⟩
  have hPc : va_P D vwCl [(q, .inr (ci, fs))] H1 := fun k x hx => by
    obtain ⟨-, rfl⟩ := h1 k x hx
    exact hP1 _ _ hlast
  have hDc : va_D A [(q, .inr (ci, fs))] := ⟨fun i j a b ha hb _ => by rw [(h1 i a ha).1, (h1 j b hb).1], fun k x hx => by
    obtain ⟨-, rfl⟩ := h1 k x hx
    exact hD1.2 _ _ hlast⟩
  have hFc : ∀ z, va_A [(q, (Sum.inr (ci, fs) : va_E))] H1.size z → A z := fun z hz => by
    rcases hz with ⟨k, e, h⟩ | h
    · have h2 := (h1 k _ h).2
      have h3 : z = q := congrArg Prod.fst h2
      rw [h3]
      exact hD1.2 _ _ hlast
    · exact hA z (Nat.le_trans hS1.1 h)
  refine va_callv (hrun q H1 hPc hDc) hS1 (fun z _ h => hFc z h) hFc (fun w1 t H2 locs2 ht hvm hpost hB hz1 hk1 hS2 => ?_)
  obtain ⟨hP2, hD2⟩ := hB
  rw [ht] at hP2
  obtain ⟨hP3, hD3⟩ := tc_join hP1 hD1 hk1 hFc hP2 hD2
  exact kk q w1 H2 locs2 hpost hP3 hD3 hS2
theorem tc_blind {h0 sz : Nat} {e0 : va_E} : FrameBlind (va_Pc [.ref h0] (fun U => U.heap.size = sz ∧ va_P D vwCl [(h0, e0)] U.heap ∧ va_K D vwCl (teT cy) U ∧ va_D (fun _ => True) [(h0, e0)] ∧ tcN U)) := fun a U g mk q => by
  obtain ⟨q0, q1, qP, qK, qD, qN⟩ := q
  exact ⟨q0, q1, qP, va_K.moved (u := U) (U := U.calling g mk a) (Vm.Alike.refl U.vm) qK, qD, qN.blind g mk a⟩
theorem tc_pre (X : tcY D cy own cc nL Ts p s m args c) {q : Nat} {e0 : va_E} {H1 : Heap} (hP : va_P D vwCl [(q, e0)] H1) (hD : va_D A [(q, e0)]) : PreS s H1 (va_Pc [.ref q] (fun U => U.heap.size = H1.size ∧ va_P D vwCl [(q, e0)] U.heap ∧ va_K D vwCl (teT cy) U ∧ va_D (fun _ => True) [(q, e0)] ∧ tcN U)) [.ref q] :=
  ⟨tc_blind, fun U hU hW => ⟨rfl, by rw [hU], by rw [hU]; exact hP, va_K.moved hW.alike X.2.2.2.2.2.1, hD.weaken (fun _ _ _ _ => trivial), X.2.2.2.2.2.2.warm hW⟩⟩
theorem tc_mkL (X : tcY D cy own cc nL Ts p s m args c) {C : String} {T : u_T} {N ci ix1 ix2 maxL mc ms : Nat} {y : MethodName} {bytes : ByteArray} {ws : List Cond} {rm : Room} {fs : List Value} {post : Nat → va_W → Prop}
    (hM : ∀ q, tcM l D cy y ws rm q (.inr (ci, fs)) (post q) mc ms) (cw : CallB R s args own ix2 y bytes maxL none ws rm mc ms 0 ∧ y.name = "<init>" ∧ (Cond.instanceMethod y).before args s = true)
    (hin : ∀ w ∈ u_ws C T N, w ∈ Ts) (ty : Nat → FieldType) (hty : ∀ k, k < N → parseFieldDescriptor (T k).2.2.1 = some (ty k)) (hcl : Cond.classLink own ix1 C ∈ Ts) (hinst : Cond.instantiable C N ∈ Ts) (hini : Cond.initialized C ∈ Ts) (hc : vwCl[ci]? = some (C, T, N)) (hfs : ∀ j, j < N → defaultValue (ty j) = vp_V fs j)
    (hP : va_P D vwCl ww H) (hD : va_D A ww) (hS : va_S A H0 H locs) (hA : ∀ q, H0.size ≤ q → A q) (hcells : cells + 1 + mc ≤ R.cells) (hslots : slots + N + ms ≤ R.slots) (hls : ls.size = nL) (hW : ∀ q : Nat, ((Value.ref q :: rest).map fun v => v.category).sum ≤ 8) (d0 : decode cc pc = .ok (.new ix1, 3)) (d3 : decode cc (pc + 3) = .ok (.dup, 1)) (d4 : decode cc (pc + 4) = .ok (.invokespecial ix2, 3))
    (kk : ∀ (q : Nat) (w1 : va_W) (H1 : Heap) (locs1 : List Loc), post q w1 → va_P D vwCl (ww ++ w1) H1 → va_D A (ww ++ w1) → va_S A H0 H1 locs1 → W p l e R s m args below meth c H1 locs1 (cells + 1 + mc) (slots + N + ms) Q (F0 m (pc + 7) ls (.ref q :: rest))) : W p l e R s m args below meth c H locs cells slots Q (F0 m pc ls rest) :=
  tc_mk0 X (ix1 := ix1) (ix2 := ix2) (y := y) (ws := ws) (rm := rm) hin ty hty hcl hinst hini hc hfs hP hD hS hA hcells hslots d0 d3 (fun q H1 hPc hDc => va_runI (As := []) (rest := .ref q :: rest) ⟨X.1, X.2.1, X.2.2.1, X.2.2.2.1, X.2.2.2.2.1⟩ (hM q H1.size) cw (tc_pre X hPc hDc) rfl rfl hls rfl (lv_room (hW q)) d4 ⟨hcells, hslots⟩) kk
theorem tc_mk (X : tcX D cy own cc nL Ts p s m args meth c) {C : String} {T : u_T} {N ci ix1 ix2 maxL mc ms : Nat} {y : MethodName} {bytes : ByteArray} {ws : List Cond} {rm : Room} {fs : List Value} {post : Nat → va_W → Prop}
    (hM : ∀ q, tcM l D cy y ws rm q (.inr (ci, fs)) (post q) mc ms) (cw : CallB R s args own ix2 y bytes maxL none ws rm mc ms 0 ∧ y.name = "<init>" ∧ (Cond.instanceMethod y).before args s = true)
    (hin : ∀ w ∈ u_ws C T N, w ∈ Ts) (ty : Nat → FieldType) (hty : ∀ k, k < N → parseFieldDescriptor (T k).2.2.1 = some (ty k)) (hcl : Cond.classLink own ix1 C ∈ Ts) (hinst : Cond.instantiable C N ∈ Ts) (hini : Cond.initialized C ∈ Ts) (hc : vwCl[ci]? = some (C, T, N)) (hfs : ∀ j, j < N → defaultValue (ty j) = vp_V fs j)
    (hP : va_P D vwCl ww H) (hD : va_D A ww) (hS : va_S A H0 H locs) (hA : ∀ q, H0.size ≤ q → A q) (hcells : cells + 1 + mc ≤ R.cells) (hslots : slots + N + ms ≤ R.slots) (hls : ls.size = nL) (hW : ∀ q : Nat, ((Value.ref q :: rest).map fun v => v.category).sum ≤ 8) (d0 : decode cc pc = .ok (.new ix1, 3)) (d3 : decode cc (pc + 3) = .ok (.dup, 1)) (d4 : decode cc (pc + 4) = .ok (.invokespecial ix2, 3))
    (kk : ∀ (q : Nat) (w1 : va_W) (H1 : Heap) (locs1 : List Loc), post q w1 → va_P D vwCl (ww ++ w1) H1 → va_D A (ww ++ w1) → va_S A H0 H1 locs1 → W p l e R s m args below meth c H1 locs1 (cells + 1 + mc) (slots + N + ms) Q (F0 m (pc + 7) ls (.ref q :: rest))) : W p l e R s m args below meth c H locs cells slots Q (F0 m pc ls rest) :=
  tc_mkL X.y hM cw hin ty hty hcl hinst hini hc hfs hP hD hS hA hcells hslots hls hW d0 d3 d4 kk
theorem tc_mkN (X : tcX D cy own cc nL Ts p s m args meth c) {C host : String} {T : u_T} {N ci ix1 ix2 maxL mc ms : Nat} {y : MethodName} {bytes : ByteArray} {ws : List Cond} {rm : Room} {fs : List Value} {post : Nat → va_W → Prop}
    (hM : ∀ q, tcM l D cy y ws rm q (.inr (ci, fs)) (post q) mc ms) (cw : va_CN R s args own ix2 y host bytes maxL none ws rm mc ms 0 ∧ y.name = "<init>" ∧ (Cond.instanceMethod y).before args s = true)
    (hin : ∀ w ∈ u_ws C T N, w ∈ Ts) (ty : Nat → FieldType) (hty : ∀ k, k < N → parseFieldDescriptor (T k).2.2.1 = some (ty k)) (hcl : Cond.classLink own ix1 C ∈ Ts) (hinst : Cond.instantiable C N ∈ Ts) (hini : Cond.initialized C ∈ Ts) (hc : vwCl[ci]? = some (C, T, N)) (hfs : ∀ j, j < N → defaultValue (ty j) = vp_V fs j)
    (hP : va_P D vwCl ww H) (hD : va_D A ww) (hS : va_S A H0 H locs) (hA : ∀ q, H0.size ≤ q → A q) (hcells : cells + 1 + mc ≤ R.cells) (hslots : slots + N + ms ≤ R.slots) (hls : ls.size = nL) (hW : ∀ q : Nat, ((Value.ref q :: rest).map fun v => v.category).sum ≤ 8) (d0 : decode cc pc = .ok (.new ix1, 3)) (d3 : decode cc (pc + 3) = .ok (.dup, 1)) (d4 : decode cc (pc + 4) = .ok (.invokespecial ix2, 3))
    (kk : ∀ (q : Nat) (w1 : va_W) (H1 : Heap) (locs1 : List Loc), post q w1 → va_P D vwCl (ww ++ w1) H1 → va_D A (ww ++ w1) → va_S A H0 H1 locs1 → W p l e R s m args below meth c H1 locs1 (cells + 1 + mc) (slots + N + ms) Q (F0 m (pc + 7) ls (.ref q :: rest))) : W p l e R s m args below meth c H locs cells slots Q (F0 m pc ls rest) :=
  tc_mk0 X.y (ix1 := ix1) (ix2 := ix2) (y := y) (ws := ws) (rm := rm) hin ty hty hcl hinst hini hc hfs hP hD hS hA hcells hslots d0 d3 (fun q H1 hPc hDc => va_runIN (As := []) (rest := .ref q :: rest) ⟨X.1, X.2.1, X.2.2.1, X.2.2.2.1, X.2.2.2.2.1⟩ (hM q H1.size) cw (tc_pre X.y hPc hDc) rfl rfl hls rfl (lv_room (hW q)) d4 ⟨hcells, hslots⟩) kk
theorem tc_ast (X : tcX D cy own cc nL Ts p s m args meth c) {P M R' ws : va_W} {a v n ci k i : Nat} {r : vw_C} {f : Nat → Option Nat} {vs : List Value} (hP : va_P D vwCl ws H) (hD : va_D A ws) (hS : va_S A H0 H locs) (hw : ws = P ++ (a, .inl (cy k, n, .inr (.inr (.inr (.inr f))))) :: (M ++ (v, .inr (ci, vs)) :: R')) (hk : (teT cy)[k]? = some (cy k, .object r.1)) (hc : vwCl[ci]? = some r) (hi : i < n) (hn : n < 1000) (hdg : decode cc pc = .ok (.aastore, 1))
    (kk : ∀ (H1 : Heap) (locs1 : List Loc), va_P D vwCl (P ++ (a, .inl (cy k, n, .inr (.inr (.inr (.inr (va_up f i (some v))))))) :: (M ++ (v, .inr (ci, vs)) :: R')) H1 → va_D A (P ++ (a, .inl (cy k, n, .inr (.inr (.inr (.inr (va_up f i (some v))))))) :: (M ++ (v, .inr (ci, vs)) :: R')) → va_S A H0 H1 locs1 → W p l e R s m args below meth c H1 locs1 cells slots Q (F0 m (pc + 1) ls rest)) : W p l e R s m args below meth c H locs cells slots Q (F0 m pc ls (.ref v :: .int (nI i) :: .ref a :: rest)) := by
  subst hw
  have e1 : (P ++ (a, (Sum.inl (cy k, n, .inr (.inr (.inr (.inr f)))) : va_E)) :: (M ++ (v, .inr (ci, vs)) :: R'))[P.length]? = some (a, .inl (cy k, n, .inr (.inr (.inr (.inr f))))) := by
    rw [List.getElem?_append_right (Nat.le_refl _), Nat.sub_self]; rfl
  have e2 : (P ++ (a, (Sum.inl (cy k, n, .inr (.inr (.inr (.inr f)))) : va_E)) :: (M ++ (v, .inr (ci, vs)) :: R'))[P.length + (M.length + 1)]? = some (v, .inr (ci, vs)) := by
    rw [List.getElem?_append_right (by omega), Nat.add_sub_cancel_left, List.getElem?_cons_succ, List.getElem?_append_right (Nat.le_refl _), Nat.sub_self]; rfl
  have e3 : ∀ z : Nat × va_E, (P ++ (a, (Sum.inl (cy k, n, .inr (.inr (.inr (.inr f)))) : va_E)) :: (M ++ (v, .inr (ci, vs)) :: R')).set P.length z = P ++ z :: (M ++ (v, .inr (ci, vs)) :: R') := fun z => by
    rw [List.set_append_right _ _ (Nat.le_refl _), Nat.sub_self]; rfl
  refine va_astq X.1 X.2.1 X.2.2.2.2.2.2.2.2.1 hP hD hS P.length k (P.length + (M.length + 1)) ci e1 hk e2 hc (i := nI i) ?_ hdg (fun H1 locs1 hP1 hD1 hS1 => ?_)
  · rintro (h | h)
    · exact nI_pos (by omega) h
    · rw [nn_tn (by omega)] at h
      omega
  · rw [e3, nn_tn (by omega)] at hP1 hD1
    exact kk H1 locs1 hP1 hD1 hS1
end TCMK
