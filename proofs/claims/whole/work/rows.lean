section
-- ===== PART A: goes FIRST, ahead of the names: the tables' words, and 'selects' of the private methods out of them =====
/-- a private method of a class that the tables say can be made, by its rows of tables_1 -/
def lw_okq (q : MethodName × Nat) : Prop := (q.1.cls ≠ "java/lang/invoke/MethodHandle" ∧ q.1.cls ≠ "java/lang/invoke/VarHandle") ∧ Cond.instantiable q.1.cls q.2 ∈ tables_1 ∧ Cond.privateMethod q.1 ∈ tables_1 ∧ Cond.instanceMethod q.1 ∈ tables_1
theorem lw_p0 : lw_okq (⟨"java/lang/Throwable", "fillInStackTrace", "(I)Ljava/lang/Throwable;"⟩, 6) := ⟨⟨by decide +kernel, by decide +kernel⟩, List.mem_of_getElem? (i := 310) (by decide +kernel), List.mem_of_getElem? (i := 308) (by decide +kernel), List.mem_of_getElem? (i := 309) (by decide +kernel)⟩
theorem lw_p1 : lw_okq (⟨"TandemExchange", "requireMember", "(I)V"⟩, 7) := ⟨⟨by decide +kernel, by decide +kernel⟩, List.mem_of_getElem? (i := 17) (by decide +kernel), List.mem_of_getElem? (i := 440) (by decide +kernel), List.mem_of_getElem? (i := 441) (by decide +kernel)⟩
theorem lw_p2 : lw_okq (⟨"TandemExchange", "requireTwoMembers", "(II)V"⟩, 7) := ⟨⟨by decide +kernel, by decide +kernel⟩, List.mem_of_getElem? (i := 17) (by decide +kernel), List.mem_of_getElem? (i := 472) (by decide +kernel), List.mem_of_getElem? (i := 473) (by decide +kernel)⟩
theorem lw_p3 : lw_okq (⟨"TandemExchange", "requirePartner", "(I)V"⟩, 7) := ⟨⟨by decide +kernel, by decide +kernel⟩, List.mem_of_getElem? (i := 17) (by decide +kernel), List.mem_of_getElem? (i := 552) (by decide +kernel), List.mem_of_getElem? (i := 553) (by decide +kernel)⟩
theorem lw_p4 : lw_okq (⟨"TandemExchange", "commandSucceeds", "(I)Z"⟩, 7) := ⟨⟨by decide +kernel, by decide +kernel⟩, List.mem_of_getElem? (i := 17) (by decide +kernel), List.mem_of_getElem? (i := 701) (by decide +kernel), List.mem_of_getElem? (i := 702) (by decide +kernel)⟩
theorem lw_p5 : lw_okq (⟨"TandemExchangeModel", "refused", "(I)Z"⟩, 13) := ⟨⟨by decide +kernel, by decide +kernel⟩, List.mem_of_getElem? (i := 733) (by decide +kernel), List.mem_of_getElem? (i := 791) (by decide +kernel), List.mem_of_getElem? (i := 792) (by decide +kernel)⟩
theorem lw_p6 : lw_okq (⟨"TandemExchangeModel", "readAll", "()Z"⟩, 13) := ⟨⟨by decide +kernel, by decide +kernel⟩, List.mem_of_getElem? (i := 733) (by decide +kernel), List.mem_of_getElem? (i := 803) (by decide +kernel), List.mem_of_getElem? (i := 804) (by decide +kernel)⟩
theorem lw_p7 : lw_okq (⟨"TandemExchangeModel", "eat", "(I)Z"⟩, 13) := ⟨⟨by decide +kernel, by decide +kernel⟩, List.mem_of_getElem? (i := 733) (by decide +kernel), List.mem_of_getElem? (i := 807) (by decide +kernel), List.mem_of_getElem? (i := 808) (by decide +kernel)⟩
theorem lw_p8 : lw_okq (⟨"TandemExchangeModel", "readMember", "()Z"⟩, 13) := ⟨⟨by decide +kernel, by decide +kernel⟩, List.mem_of_getElem? (i := 733) (by decide +kernel), List.mem_of_getElem? (i := 811) (by decide +kernel), List.mem_of_getElem? (i := 812) (by decide +kernel)⟩
theorem lw_p9 : lw_okq (⟨"TandemExchangeModel", "digit", "(I)I"⟩, 13) := ⟨⟨by decide +kernel, by decide +kernel⟩, List.mem_of_getElem? (i := 733) (by decide +kernel), List.mem_of_getElem? (i := 818) (by decide +kernel), List.mem_of_getElem? (i := 819) (by decide +kernel)⟩
theorem lw_p10 : lw_okq (⟨"TandemExchangeModel", "note", "()V"⟩, 13) := ⟨⟨by decide +kernel, by decide +kernel⟩, List.mem_of_getElem? (i := 733) (by decide +kernel), List.mem_of_getElem? (i := 890) (by decide +kernel), List.mem_of_getElem? (i := 891) (by decide +kernel)⟩
theorem lw_p11 : lw_okq (⟨"TandemExchangeModel", "laySets", "([I)V"⟩, 13) := ⟨⟨by decide +kernel, by decide +kernel⟩, List.mem_of_getElem? (i := 733) (by decide +kernel), List.mem_of_getElem? (i := 989) (by decide +kernel), List.mem_of_getElem? (i := 990) (by decide +kernel)⟩
theorem lw_p12 : lw_okq (⟨"TandemExchangeModel", "does", "(IIII)Z"⟩, 13) := ⟨⟨by decide +kernel, by decide +kernel⟩, List.mem_of_getElem? (i := 733) (by decide +kernel), List.mem_of_getElem? (i := 1017) (by decide +kernel), List.mem_of_getElem? (i := 1018) (by decide +kernel)⟩
def lw_privs_1 : List (MethodName × Nat) := [(⟨"java/lang/Throwable", "fillInStackTrace", "(I)Ljava/lang/Throwable;"⟩, 6), (⟨"TandemExchange", "requireMember", "(I)V"⟩, 7), (⟨"TandemExchange", "requireTwoMembers", "(II)V"⟩, 7), (⟨"TandemExchange", "requirePartner", "(I)V"⟩, 7), (⟨"TandemExchange", "commandSucceeds", "(I)Z"⟩, 7), (⟨"TandemExchangeModel", "refused", "(I)Z"⟩, 13), (⟨"TandemExchangeModel", "readAll", "()Z"⟩, 13), (⟨"TandemExchangeModel", "eat", "(I)Z"⟩, 13), (⟨"TandemExchangeModel", "readMember", "()Z"⟩, 13), (⟨"TandemExchangeModel", "digit", "(I)I"⟩, 13), (⟨"TandemExchangeModel", "note", "()V"⟩, 13), (⟨"TandemExchangeModel", "laySets", "([I)V"⟩, 13), (⟨"TandemExchangeModel", "does", "(IIII)Z"⟩, 13)]
theorem lw_r1 : ∀ q ∈ lw_privs_1, lw_okq q := List.forall_mem_cons.mpr ⟨lw_p0, List.forall_mem_cons.mpr ⟨lw_p1, List.forall_mem_cons.mpr ⟨lw_p2, List.forall_mem_cons.mpr ⟨lw_p3, List.forall_mem_cons.mpr ⟨lw_p4, List.forall_mem_cons.mpr ⟨lw_p5, List.forall_mem_cons.mpr ⟨lw_p6, List.forall_mem_cons.mpr ⟨lw_p7, List.forall_mem_cons.mpr ⟨lw_p8, List.forall_mem_cons.mpr ⟨lw_p9, List.forall_mem_cons.mpr ⟨lw_p10, List.forall_mem_cons.mpr ⟨lw_p11, List.forall_mem_cons.mpr ⟨lw_p12, fun _ h => absurd h List.not_mem_nil⟩⟩⟩⟩⟩⟩⟩⟩⟩⟩⟩⟩⟩
def lw_privs : List (MethodName × Nat) := lw_privs_1
def lw_tbl : List Cond := k2_sels lw_privs ++ tables_1
theorem lw_privs_ok : ∀ q ∈ lw_privs, lw_okq q := lw_r1
-- ===== end of PART A; then your names; then what follows =====
/-! ===== BEGIN words of one list among another's, by their places ===== -/
theorem goodIn_r {big : List Cond} (ws : List Cond) (ps : List Nat) (hp : ws = ps.filterMap (fun i => big[i]?)) (h : ws.all goodWord = true) : GoodIn big ws := by
  intro w hw
  have h1 := List.all_eq_true.mp h w hw
  rw [hp] at hw
  obtain ⟨i, -, hi⟩ := List.mem_filterMap.mp hw
  have hm : w ∈ big := by first | exact List.mem_of_getElem? hi | exact List.getElem?_mem hi
  exact ⟨hm, good_of_word h1⟩
theorem goodIn_app {big a b : List Cond} (ha : GoodIn big a) (hb : GoodIn big b) : GoodIn big (a ++ b) := fun w h => (List.mem_append.mp h).elim (ha w) (hb w)
theorem goodIn_ca {big a b : List Cond} {c : Cond} (ha : GoodIn big (c :: a)) (hb : GoodIn big b) : GoodIn big (c :: (a ++ b)) := fun w h => (List.mem_cons.mp h).elim (fun e => ha w (List.mem_cons.mpr (Or.inl e))) (fun h => (List.mem_append.mp h).elim (fun h => ha w (List.mem_cons.mpr (Or.inr h))) (hb w))
theorem goodIn_sub {big ws : List Cond} (hm : ∀ w ∈ ws, w ∈ big) (h : ws.all goodWord = true) : GoodIn big ws := fun w hw => ⟨hm w hw, good_of_word (List.all_eq_true.mp h w hw)⟩
/-! ===== END ===== -/

/-! ===== BEGIN exceptions that leave a method, and their catching by the caller (launches without stack traces) ===== -/
section VXA
/-! The laws vx_back, vx_callV, vx_callS, vx_callSW, vx_throw0, vx_throwS follow proofs of the library, with one case more: JvmDerived/Free/Laws.lean (Back.of_free), Shelf42/LK1.lean (callV, callS), Shelf/KitTraced.lean (throwNew0V, throwNewS). -/
/-- where a method has thrown q: the class by its name, the cell, what was written, the world -/
def vx_T (XC : String → State → State → Prop) (st : State) (q : Addr) (t : State) (mc ms : Nat) (free : Addr → Prop) : Prop :=
  ∃ (E : String) (ce : Cell) (L : List Loc), XC E st t ∧ t.heap[q]? = some ce ∧ ce.vm = .none ∧ st.vm.findClass E = some ce.cls ∧ st.WarmedH t.vm ∧ st.sameButNew ({ t with vm := st.vm } : State) L mc ms ∧ ∀ z ∈ L, free z.base
def vx_Q (Qc : Array Value → State → Outcome → State → Prop) (XC : String → State → State → Prop) (mc ms : Nat) (free : Addr → Prop) : Array Value → State → Outcome → State → Prop := fun a st o t =>
  (Qc a st o t ∧ ∃ L, FrameEnd st o t L mc ms ∧ ∀ q ∈ L, free q.base) ∨ ∃ q, o = .threw q ∧ vx_T XC st q t mc ms free
/-- a callee that returns or throws -/
def vx_Met (l : Launch) (y : MethodName) (ws : List Cond) (rm : Room) (Pc : Array Value → State → Prop) (Qc : Array Value → State → Outcome → State → Prop) (XC : String → State → State → Prop) (mc ms : Nat) (free : Addr → Prop) : Prop :=
  MetFree l y (headSpec ws rm) Pc (fun _ _ _ _ _ => True) (vx_Q Qc XC mc ms free)
def vx_Post (XC : String → State → State → Prop) (mc ms : Nat) (free : Addr → Prop) : Pt → Array Value → Addr → Pt → Prop := fun A a q B =>
  ∃ (g : JFrame) (mk : MethodId) (t : State) (L : List Loc) (E : String) (ce : Cell), B.U.heap = t.heap ∧ B.U.vm = t.vm ∧ XC E (A.U.calling g mk a) t ∧ t.heap[q]? = some ce ∧ ce.vm = .none ∧ A.U.vm.findClass E = some ce.cls ∧ B.locs = A.locs ++ L ∧ (∀ z ∈ L, free z.base) ∧ B.cells = A.cells + mc ∧ B.slots = A.slots + ms
def vx_Back (l : Launch) (R : Room) (p : Program) (e : Env) (below : List Frame) (s : State) (sargs : Array Value) (y : MethodName) (len W9 : Nat)
    (Pre : Pt → Array Value → Prop) (Post : Pt → Array Value → Option Value → Pt → Prop) (PostX : Pt → Array Value → Addr → Pt → Prop) : Prop :=
  ∀ (m : MethodId) (meth : Method) (c : Code) (A : Pt) (g : JFrame) (ig : Instr) (mk : MethodId) (a : Array Value),
    Stand p l e R s m sargs below meth c A.U A.locs A.cells A.slots → g.method = m → g.locals.size = c.maxLocals → decode c.code g.pc = .ok (ig, len) →
    2 * g.monitorRoom + (g.stack.map fun v => v.category).sum ≤ W9 → A.U.methodNamed? y = some mk → Pre A a →
    (∃ (v : Option Value) (B : Pt), Stand p l e R s m sargs below meth c B.U B.locs B.cells B.slots ∧ Post A a v B ∧
      Steps p.tables e below (doInvoke e (A.U.setTop g) [] mk a).1 (B.U.setTop { g with pc := g.pc + len, stack := v.toList ++ g.stack })) ∨
    (∃ (q : Addr) (B : Pt), Stand p l e R s m sargs below meth c B.U B.locs B.cells B.slots ∧ PostX A a q B ∧
      Steps p.tables e below (doInvoke e (A.U.setTop g) [] mk a).1 ((B.U.setTop g).pushFrame (.throwing q)))
section Payer
variable {l : Launch} {R : Room} {p : Program} {e : Env} {below : List Frame} {s : State} {sargs : Array Value} {y : MethodName} {len W9 : Nat}
theorem vx_back {ws : List Cond} {rm : Room} {Pc : Array Value → State → Prop} {Qc : Array Value → State → Outcome → State → Prop} {XC : String → State → State → Prop} {mc ms : Nat} {free : Addr → Prop} {bytes : ByteArray} {maxL : Nat} {ret : Option FieldType}
    (hM : vx_Met l y ws rm Pc Qc XC mc ms free) (hblind : FrameBlind Pc) (hrc : rm.cells = mc) (hrs : rm.slots = ms)
    (hframes : rm.frames + 1 ≤ R.frames) (hlocals : W9 + (maxL + 11) + rm.locals ≤ R.locals)
    (hws : ∀ w ∈ ws, ∀ a' U, s.WarmedH U.vm → w.before a' U = true) (hcode : Cond.code y bytes maxL ret ∈ ws) (hinit : ∀ a' U, s.WarmedH U.vm → (Cond.initialized y.cls).before a' U = true) :
    vx_Back l R p e below s sargs y len W9 (PreOf R mc ms Pc) (PostOf Qc mc ms free) (vx_Post XC mc ms free) := by
  intro m meth c A g ig mk a X hg hsize hdg hW hn hp
  have h1 : (headSpec ws rm).pre.before a A.U = true := atoms_intro fun w hw => hws w hw _ _ X.warmed
  have h2 : (Cond.code y bytes maxL ret).before a A.U = true := hws _ hcode _ _ X.warmed
  have h3 : (Cond.initialized y.cls).before a A.U = true := hinit _ _ X.warmed
  have h4 : A.cells + (headSpec ws rm).room.cells ≤ R.cells := by rw [show (headSpec ws rm).room.cells = mc from hrc]; exact hp.1
  have h5 : A.slots + (headSpec ws rm).room.slots ≤ R.slots := by rw [show (headSpec ws rm).room.slots = ms from hrs]; exact hp.2.1
  have hPc : Pc a (A.U.calling g mk a) := hblind _ _ _ _ hp.2.2
  obtain ⟨U, Ls, c0, s0⟩ := A
  dsimp only [Pt.U, Pt.locs, Pt.cells, Pt.slots] at h1 h2 h3 h4 h5 X hn hPc ⊢
  obtain ⟨methY, cY, hmY, hcY, -, hlY, -, -, -, -⟩ := Cond.code_spec hn h2
  obtain ⟨kY, hkY, -⟩ := className_of_methodNamed hn
  have hinitY : kY.init = .initialized := Cond.initialized_spec (findClass_of_methodNamed hn) hkY h3
  have h : At U g.method c below := by rw [hg]; exact X.here
  have hlocals9 : W9 + (maxL + 11) + (headSpec ws rm).room.locals ≤ R.locals := hlocals
  have happ : (headSpec ws rm).appliesLoose y e.platform (U.calling g mk a) = true :=
    Spec.appliesLoose_calling (g := g) h hdg hn hkY hinitY
      (X.room_calling (g := g) (R' := (headSpec ws rm).room) hsize hmY hcY hframes (by rw [hlY]; omega) h4 h5) h1
  obtain ⟨mid, hmid⟩ := h.above
  have hfr : (U.setTop g).frames = (.java g :: mid) ++ below := by rw [State.frames_setTop' g h.top, hmid]; rfl
  obtain ⟨o, s₂, hsteps, -, hend, hq⟩ := Steps.callFree hM p X.admits X.cas X.clock (acts := []) hfr happ hPc trivial
  have hq' : vx_Q Qc XC mc ms free a (U.calling g mk a) o s₂ := hq
  rw [State.frames_setTop' g h.top] at hend
  obtain ⟨g₀, hg0⟩ := Option.isSome_iff_exists.mp h.top
  obtain ⟨r, hr⟩ := State.topJava?_eq_some.mp hg0
  have hr' : (({ U with heap := s₂.heap, slotsUsed := s₂.slotsUsed } : State).setVm s₂.vm).frames = .java g₀ :: r := hr
  rcases hq' with ⟨hqc, L, hfe, hL⟩ | ⟨q, rfl, E, ce, L, hx, hce, hcv, hcl, hW₂, hsm, hL⟩
  · obtain ⟨⟨v, rfl⟩, hW₂, e2, q2, q3, q4, q5, q6⟩ := id hfe
    have e3 : s₂ = ({ (U.calling g mk a).setFrames s₂.frames with heap := s₂.heap, slotsUsed := s₂.slotsUsed } : State).setVm s₂.vm := by
      have : s₂ = ({ s₂ with vm := (U.calling g mk a).vm } : State).setVm s₂.vm := rfl
      rw [e2] at this
      exact this
    obtain ⟨c₂, i₂, len₂, hc₂, hd₂, hf₂⟩ := hend
    have hW' : U.WarmedH s₂.vm := hW₂
    have hcc : c₂ = c := by
      have h1 : s₂.code? g.method = U.code? g.method := by
        rw [State.code?_eq, State.code?_eq, hW'.alike.method?]
      exact Option.some.inj (hc₂.symm.trans (h1.trans h.code))
    subst hcc
    have hlen : len₂ = len := by rw [hdg] at hd₂; cases hd₂; rfl
    subst hlen
    have hs₂ : s₂ = (({ U with heap := s₂.heap, slotsUsed := s₂.slotsUsed } : State).setVm s₂.vm).setTop { g with pc := g.pc + len₂, stack := v.toList ++ g.stack } := by
      refine e3.trans ?_
      rw [hf₂, State.calling_eq h.top, State.setFrames_setFrames, State.setTop_of_frames _ hr', hr]
      rfl
    have hsame : U.sameButNew ({ U with heap := s₂.heap, slotsUsed := s₂.slotsUsed } : State) L mc ms := by
      refine ⟨?_, q2, q3, q4, q5, q6⟩
      obtain ⟨t, ht, -⟩ := State.frames_cons hr
      show ({ U with heap := s₂.heap, slotsUsed := s₂.slotsUsed } : State) = { U.setFrames U.frames with heap := s₂.heap, slotsUsed := s₂.slotsUsed }
      rw [State.setFrames_self ht]
    subst hg
    refine Or.inl ⟨v, ⟨(({ U with heap := s₂.heap, slotsUsed := s₂.slotsUsed } : State).setVm s₂.vm), Ls ++ L, c0 + mc, s0 + ms⟩,
      ⟨X.admits, X.cas, X.clock, X.frames, X.room, X.hears, X.method, X.code, (X.here.setHeapUsed s₂.heap s₂.slotsUsed).setVm hW'.alike, X.tail, State.WarmedH.trans X.warmed hW', X.limits, X.bytes, X.same.trans (hsame.setVm s.vm)⟩,
      ⟨g, mk, s₂, L, rfl, rfl, hqc, rfl, hL, rfl, rfl⟩, ?_⟩
    show Steps p.tables e below _ ((({ U with heap := s₂.heap, slotsUsed := s₂.slotsUsed } : State).setVm s₂.vm).setTop { g with pc := g.pc + len₂, stack := v.toList ++ g.stack })
    rw [← hs₂]
    exact hsteps
  · obtain ⟨e2, q2, q3, q4, q5, q6⟩ := id hsm
    have e3 : s₂ = ({ (U.calling g mk a).setFrames s₂.frames with heap := s₂.heap, slotsUsed := s₂.slotsUsed } : State).setVm s₂.vm := by
      have : s₂ = ({ s₂ with vm := (U.calling g mk a).vm } : State).setVm s₂.vm := rfl
      rw [e2] at this
      exact this
    have hf₂ : s₂.frames = .throwing q :: .java g :: U.frames.tail := hend
    have hW' : U.WarmedH s₂.vm := hW₂
    have hs₂ : s₂ = ((({ U with heap := s₂.heap, slotsUsed := s₂.slotsUsed } : State).setVm s₂.vm).setTop g).pushFrame (.throwing q) := by
      refine e3.trans ?_
      rw [hf₂, State.calling_eq h.top, State.setFrames_setFrames, State.pushFrame, State.frames_setTop _ hr', State.setTop_of_frames _ hr', State.setFrames_setFrames, hr]
      rfl
    have hsame : U.sameButNew ({ U with heap := s₂.heap, slotsUsed := s₂.slotsUsed } : State) L mc ms := by
      refine ⟨?_, q2, q3, q4, q5, q6⟩
      obtain ⟨t, ht, -⟩ := State.frames_cons hr
      show ({ U with heap := s₂.heap, slotsUsed := s₂.slotsUsed } : State) = { U.setFrames U.frames with heap := s₂.heap, slotsUsed := s₂.slotsUsed }
      rw [State.setFrames_self ht]
    subst hg
    refine Or.inr ⟨q, ⟨(({ U with heap := s₂.heap, slotsUsed := s₂.slotsUsed } : State).setVm s₂.vm), Ls ++ L, c0 + mc, s0 + ms⟩,
      ⟨X.admits, X.cas, X.clock, X.frames, X.room, X.hears, X.method, X.code, (X.here.setHeapUsed s₂.heap s₂.slotsUsed).setVm hW'.alike, X.tail, State.WarmedH.trans X.warmed hW', X.limits, X.bytes, X.same.trans (hsame.setVm s.vm)⟩,
      ⟨g, mk, s₂, L, E, ce, rfl, rfl, hx, hce, hcv, hcl, rfl, hL, rfl, rfl⟩, ?_⟩
    show Steps p.tables e below _ (((({ U with heap := s₂.heap, slotsUsed := s₂.slotsUsed } : State).setVm s₂.vm).setTop g).pushFrame (.throwing q))
    rw [← hs₂]
    exact hsteps
end Payer
section Calls
variable {p : Program} {l : Launch} {e : Env} {R : Room} {s : State} {m : MethodId} {args : Array Value} {below : List Frame} {meth : Method} {c : Code} {T : State} {locs : List Loc} {cells slots : Nat}
theorem vx_callV (X : Stand p l e R s m args below meth c T locs cells slots) (hexec : p.tables.exec = Jvm.exec) {own C : String} {index : Nat} {y : MethodName} {bytes : ByteArray} {maxL : Nat} {ret : Option FieldType}
    (hown : s.vm.findClass own = some m.cls) (hlink : (Cond.methodLink own index y).before args s = true) (hinst : (Cond.instanceMethod y).before args s = true) (hsel : (Cond.selects C y y).before args s = true)
    (hcode : (Cond.code y bytes maxL ret).before args s = true) (hy : y.cls ≠ "java/lang/invoke/MethodHandle" ∧ y.cls ≠ "java/lang/invoke/VarHandle")
    {W9 : Nat} {Pre : Pt → Array Value → Prop} {Post : Pt → Array Value → Option Value → Pt → Prop} {PostX : Pt → Array Value → Addr → Pt → Prop} (hK : vx_Back l R p e below s args y 3 W9 Pre Post PostX)
    {b : Addr} {cellB : Cell} (hcell : T.heap[b]? = some cellB) (hobj : cellB.vm.isStatics = false) (hcls : s.vm.findClass C = some cellB.cls)
    {g : JFrame} (hg : g.method = m) (hsize : g.locals.size = c.maxLocals) {argsL rest : List Value} (hlen : ∀ sig, parseMethodDescriptor y.desc = some sig → argsL.length = sig.parameters.length)
    (hstack : g.stack = argsL.reverse ++ .ref b :: rest) (hW : 2 * g.monitorRoom + (rest.map fun v => v.category).sum ≤ W9) (hdg : decode c.code g.pc = .ok (.invokevirtual index, 3))
    (hpre : ∀ vm₁, s.WarmedH vm₁ → Pre ⟨T.setVm vm₁, locs, cells, slots⟩ (Value.ref b :: argsL).toArray) :
    (∃ (v : Option Value) (vm₁ : Vm) (B : Pt), s.WarmedH vm₁ ∧ Stand p l e R s m args below meth c B.U B.locs B.cells B.slots ∧ Post ⟨T.setVm vm₁, locs, cells, slots⟩ (Value.ref b :: argsL).toArray v B ∧
      ∀ target, Steps p.tables e below (B.U.setTop { g with pc := g.pc + 3, stack := v.toList ++ rest }) target → Steps p.tables e below (T.setTop g) target) ∨
    (∃ (q : Addr) (vm₁ : Vm) (B : Pt), s.WarmedH vm₁ ∧ Stand p l e R s m args below meth c B.U B.locs B.cells B.slots ∧ PostX ⟨T.setVm vm₁, locs, cells, slots⟩ (Value.ref b :: argsL).toArray q B ∧
      Steps p.tables e below (T.setTop g) ((B.U.setTop { g with stack := rest }).pushFrame (.throwing q))) := by
  obtain ⟨mk, methM, hnamed, hmethM, hstM, habM⟩ := Cond.instanceMethod_spec hinst
  obtain ⟨methM', cM, hmethM', -, -, -, -, -, -, hsigM⟩ := Cond.code_spec hnamed hcode
  cases hmethM.symm.trans hmethM'
  obtain ⟨c2, r2, m2, q1, q2, q3, q4, kP, hkP, hkPi⟩ := Cond.selects_spec hsel
  cases hcls.symm.trans q1
  cases (State.methodFound?_of_named hnamed hy).symm.trans q2
  cases hnamed.symm.trans q3
  have hselP : selectMethod e.platform s.vm cellB.cls mk = .method mk := by rw [Launch.admits_selectMethod X.admits]; exact q4
  obtain ⟨vm₁, X₁, hstep₁⟩ := X.invokevirtual hexec hown hlink hnamed hmethM hstM hkP hkPi hy (a := b) (cell := cellB) hcell
    (fun z h => by rw [h] at hobj; cases hobj) hselP hmethM habM hkP hkPi (g := g) hg (argsL := argsL) (rest := rest) (hlen _ hsigM) hstack hdg
  rcases hK m meth c ⟨T.setVm vm₁, locs, cells, slots⟩ { g with stack := rest } (.invokevirtual index) mk (Value.ref b :: argsL).toArray X₁ hg hsize hdg hW (X₁.named hnamed) (hpre vm₁ X₁.warmed) with ⟨v, B, X', hpost, hsteps⟩ | ⟨q, B, X', hpost, hsteps⟩
  · exact Or.inl ⟨v, vm₁, B, X₁.warmed, X', hpost, fun target h => hstep₁ _ fun acts => by rw [doInvoke_state]; exact hsteps.trans h⟩
  · exact Or.inr ⟨q, vm₁, B, X₁.warmed, X', hpost, hstep₁ _ fun acts => by rw [doInvoke_state]; exact hsteps⟩
theorem vx_callS (X : Stand p l e R s m args below meth c T locs cells slots) (hexec : p.tables.exec = Jvm.exec) {own : String} {index : Nat} {y : MethodName} {bytes : ByteArray} {maxL : Nat} {ret : Option FieldType}
    (hown : s.vm.findClass own = some m.cls) (hlink : (Cond.methodLink own index y).before args s = true) (hstat : (Cond.static y).before args s = true) (hinit : (Cond.initialized y.cls).before args s = true)
    (hcode : (Cond.code y bytes maxL ret).before args s = true) (hy : y.cls ≠ "java/lang/invoke/MethodHandle" ∧ y.cls ≠ "java/lang/invoke/VarHandle")
    {W9 : Nat} {Pre : Pt → Array Value → Prop} {Post : Pt → Array Value → Option Value → Pt → Prop} {PostX : Pt → Array Value → Addr → Pt → Prop} (hK : vx_Back l R p e below s args y 3 W9 Pre Post PostX)
    {g : JFrame} (hg : g.method = m) (hsize : g.locals.size = c.maxLocals) {argsL rest : List Value} (hlen : ∀ sig, parseMethodDescriptor y.desc = some sig → argsL.length = sig.parameters.length)
    (hstack : g.stack = argsL.reverse ++ rest) (hW : 2 * g.monitorRoom + (rest.map fun v => v.category).sum ≤ W9) (hdg : decode c.code g.pc = .ok (.invokestatic index, 3))
    (hpre : ∀ vm₁, s.WarmedH vm₁ → Pre ⟨T.setVm vm₁, locs, cells, slots⟩ argsL.toArray) :
    (∃ (v : Option Value) (vm₁ : Vm) (B : Pt), s.WarmedH vm₁ ∧ Stand p l e R s m args below meth c B.U B.locs B.cells B.slots ∧ Post ⟨T.setVm vm₁, locs, cells, slots⟩ argsL.toArray v B ∧
      ∀ target, Steps p.tables e below (B.U.setTop { g with pc := g.pc + 3, stack := v.toList ++ rest }) target → Steps p.tables e below (T.setTop g) target) ∨
    (∃ (q : Addr) (vm₁ : Vm) (B : Pt), s.WarmedH vm₁ ∧ Stand p l e R s m args below meth c B.U B.locs B.cells B.slots ∧ PostX ⟨T.setVm vm₁, locs, cells, slots⟩ argsL.toArray q B ∧
      Steps p.tables e below (T.setTop g) ((B.U.setTop { g with stack := rest }).pushFrame (.throwing q))) := by
  obtain ⟨mk, hnamed⟩ := Cond.code_named hcode
  obtain ⟨methM, cM, hmethM, -, -, -, -, -, -, hsigM⟩ := Cond.code_spec hnamed hcode
  have hstatic : methM.isStatic = true := Cond.static_spec hnamed hmethM hstat
  obtain ⟨kP, hkP, -⟩ := className_of_methodNamed hnamed
  have hinitP : kP.init = .initialized := Cond.initialized_spec (findClass_of_methodNamed hnamed) hkP hinit
  obtain ⟨vm₁, X₁, hstep₁⟩ := X.invokestatic hexec hown hlink hnamed hmethM hstatic hkP hinitP hy (g := g) hg (argsL := argsL) (rest := rest) (hlen _ hsigM) hstack hdg
  rcases hK m meth c ⟨T.setVm vm₁, locs, cells, slots⟩ { g with stack := rest } (.invokestatic index) mk argsL.toArray X₁ hg hsize hdg hW (X₁.named hnamed) (hpre vm₁ X₁.warmed) with ⟨v, B, X', hpost, hsteps⟩ | ⟨q, B, X', hpost, hsteps⟩
  · exact Or.inl ⟨v, vm₁, B, X₁.warmed, X', hpost, fun target h => hstep₁ _ fun acts => by rw [doInvoke_state]; exact hsteps.trans h⟩
  · exact Or.inr ⟨q, vm₁, B, X₁.warmed, X', hpost, hstep₁ _ fun acts => by rw [doInvoke_state]; exact hsteps⟩
end Calls
theorem vx_cls {s : State} {T : State} {vm₁ : Vm} {E : String} {k : ClassId} (hW : s.WarmedH vm₁) (h : (T.setVm vm₁).vm.findClass E = some k) : s.vm.findClass E = some k := by
  have h1 : vm₁.findClass E = some k := h
  rw [hW.alike.findClass] at h1
  exact h1
/-- the method's frame g, with q thrown over it -/
def vx_W (p : Program) (l : Launch) (e : Env) (R : Room) (s : State) (m : MethodId) (args : Array Value) (below : List Frame) (meth : Method) (c : Code) (H : Heap) (locs : List Loc) (cells slots : Nat) (Q : State → Prop) (g : JFrame) (q : Addr) : Prop :=
  ∀ T : State, T.heap = H → Stand p l e R s m args below meth c T locs cells slots → ∃ t, Steps p.tables e below ((T.setTop g).pushFrame (.throwing q)) t ∧ Q t
def vx_Run (p : Program) (l : Launch) (e : Env) (R : Room) (s : State) (m : MethodId) (args : Array Value) (below : List Frame) (meth : Method) (c : Code) (H : Heap) (locs : List Loc) (cells slots mc ms : Nat) (g : JFrame) (rest : List Value) (Qa : State → Outcome → State → Prop) (XC : String → State → State → Prop) (free : Addr → Prop) : Prop :=
  ∀ T : State, T.heap = H → Stand p l e R s m args below meth c T locs cells slots →
    (∃ (v : Option Value) (st₀ t T' : State) (L : List Loc), st₀.heap = H ∧ Stand p l e R s m args below meth c T' (locs ++ L) (cells + mc) (slots + ms) ∧ (∀ q ∈ L, free q.base) ∧ T'.heap = t.heap ∧ T'.vm = t.vm ∧ Qa st₀ (.returned v) t ∧
      Goes p e below T g T' { g with pc := g.pc + 3, stack := v.toList ++ rest }) ∨
    (∃ (q : Addr) (st₀ t T' : State) (L : List Loc) (E : String) (ce : Cell), st₀.heap = H ∧ Stand p l e R s m args below meth c T' (locs ++ L) (cells + mc) (slots + ms) ∧ (∀ z ∈ L, free z.base) ∧ T'.heap = t.heap ∧ T'.vm = t.vm ∧ XC E st₀ t ∧ t.heap[q]? = some ce ∧ ce.vm = .none ∧ s.vm.findClass E = some ce.cls ∧
      Steps p.tables e below (T.setTop g) ((T'.setTop { g with stack := rest }).pushFrame (.throwing q)))
def vx_X {S : Type} (px : S → Prop) (B : String → S → State → Prop) (A : Nat → Prop) : String → State → State → Prop := fun E st t => ∃ u : S, px u ∧ B E u t ∧ va_F A st t
section Runs
variable {p : Program} {l : Launch} {e : Env} {R : Room} {s : State} {m : MethodId} {args : Array Value} {below : List Frame} {meth : Method} {c : Code} {H : Heap} {locs : List Loc} {cells slots : Nat}
variable {y : MethodName} {bytes cc : ByteArray} {maxL nL mc ms n index : Nat} {ret : Option FieldType} {ws : List Cond} {rm : Room} {Pc : Array Value → State → Prop} {Qc : Array Value → State → Outcome → State → Prop} {XC : String → State → State → Prop} {free : Addr → Prop} {Ts : List Cond} {own C : String} {b : Addr} {As rest : List Value} {g : JFrame}
theorem vx_callBack (cb : CallB R s args own index y bytes maxL ret ws rm mc ms n) (hM : vx_Met l y ws rm Pc Qc XC mc ms free) (hbl : FrameBlind Pc) : vx_Back l R p e below s args y 3 8 (PreOf R mc ms Pc) (PostOf Qc mc ms free) (vx_Post XC mc ms free) := by
  obtain ⟨hrc, hrs, hfr, hlo, hws, hcw, -, hini, -⟩ := cb
  exact vx_back (bytes := bytes) (maxL := maxL) (ret := ret) hM hbl hrc hrs hfr hlo hws hcw (fun a' U hW => word_at hW (Or.inl (by first | rfl | simp [Cond.onTables, Cond.keeps, Cond.steady])) hini)
theorem vx_runV (S : CallFix p m c cc nL s args Ts own) (hM : vx_Met l y ws rm Pc Qc XC mc ms free) (cw : CallW R s args own C index y bytes maxL ret ws rm mc ms n) (hp : PreV s H C b Pc As)
    (hg : g.method = m) (hn : As.length = n) (hsize : g.locals.size = nL) (hstack : g.stack = As.reverse ++ .ref b :: rest) (hW : 2 * g.monitorRoom + (rest.map fun v => v.category).sum ≤ 8) (hdg : decode cc g.pc = .ok (.invokevirtual index, 3)) (hf : cells + mc ≤ R.cells ∧ slots + ms ≤ R.slots) :
    vx_Run p l e R s m args below meth c H locs cells slots mc ms g rest (Qc (Value.ref b :: As).toArray) XC free := by
  have hK : vx_Back l R p e below s args y 3 8 (PreOf R mc ms Pc) (PostOf Qc mc ms free) (vx_Post XC mc ms free) := vx_callBack cw.1 hM hp.1
  obtain ⟨⟨-, -, -, -, -, -, hcode, -, hy, hlen, hl⟩, hin, hse⟩ := cw
  obtain ⟨hx, hb, hml, ho, -⟩ := S
  obtain ⟨-, ⟨cellB, hcB, hoB, hclB⟩, hPc⟩ := hp
  intro T hT X
  rcases vx_callV X hx (C := C) (bytes := bytes) (maxL := maxL) (ret := ret) ho hl hin hse hcode hy hK (by rw [hT]; exact hcB) hoB hclB hg (hsize.trans hml.symm) (argsL := As) (rest := rest) (fun sig h => hn.trans (hlen sig h)) hstack hW (by rw [hb]; exact hdg)
    (fun vm₁ hW₁ => ⟨hf.1, hf.2, hPc (T.setVm vm₁) hT hW₁⟩) with ⟨v, vm₁, ⟨U', l2, c2, s2⟩, hW₁, X', ⟨g', mk, t, L, e1, e2, hq, h1, hL, h2, h3⟩, st⟩ | ⟨q, vm₁, ⟨U', l2, c2, s2⟩, hW₁, X', ⟨g', mk, t, L, E, ce, e1, e2, hq, hce, hcv, hcl, h1, hL, h2, h3⟩, st⟩
  · dsimp only [Pt.U, Pt.locs, Pt.cells, Pt.slots] at X' e1 e2 h1 h2 h3 st
    subst h1; subst h2; subst h3
    exact Or.inl ⟨v, (T.setVm vm₁).calling g' mk (Value.ref b :: As).toArray, t, U', L, hT, X', hL, e1, e2, hq, st⟩
  · dsimp only [Pt.U, Pt.locs, Pt.cells, Pt.slots] at X' e1 e2 h1 h2 h3 st hcl
    subst h1; subst h2; subst h3
    exact Or.inr ⟨q, (T.setVm vm₁).calling g' mk (Value.ref b :: As).toArray, t, U', L, E, ce, hT, X', hL, e1, e2, hq, hce, hcv, vx_cls hW₁ hcl, st⟩
theorem vx_runS (S : CallFix p m c cc nL s args Ts own) (hM : vx_Met l y ws rm Pc Qc XC mc ms free) (cw : CallB R s args own index y bytes maxL ret ws rm mc ms n ∧ (Cond.static y).before args s = true) (hp : PreS s H Pc As)
    (hg : g.method = m) (hn : As.length = n) (hsize : g.locals.size = nL) (hstack : g.stack = As.reverse ++ rest) (hW : 2 * g.monitorRoom + (rest.map fun v => v.category).sum ≤ 8) (hdg : decode cc g.pc = .ok (.invokestatic index, 3)) (hf : cells + mc ≤ R.cells ∧ slots + ms ≤ R.slots) :
    vx_Run p l e R s m args below meth c H locs cells slots mc ms g rest (Qc As.toArray) XC free := by
  have hK : vx_Back l R p e below s args y 3 8 (PreOf R mc ms Pc) (PostOf Qc mc ms free) (vx_Post XC mc ms free) := vx_callBack cw.1 hM hp.1
  obtain ⟨⟨-, -, -, -, -, -, hcode, hini, hy, hlen, hl⟩, hstt⟩ := cw
  obtain ⟨hx, hb, hml, ho, -⟩ := S
  intro T hT X
  rcases vx_callS X hx (bytes := bytes) (maxL := maxL) (ret := ret) ho hl hstt hini hcode hy hK hg (hsize.trans hml.symm) (argsL := As) (rest := rest) (fun sig h => hn.trans (hlen sig h)) hstack hW (by rw [hb]; exact hdg)
    (fun vm₁ hW₁ => ⟨hf.1, hf.2, hp.2 (T.setVm vm₁) hT hW₁⟩) with ⟨v, vm₁, ⟨U', l2, c2, s2⟩, hW₁, X', ⟨g', mk, t, L, e1, e2, hq, h1, hL, h2, h3⟩, st⟩ | ⟨q, vm₁, ⟨U', l2, c2, s2⟩, hW₁, X', ⟨g', mk, t, L, E, ce, e1, e2, hq, hce, hcv, hcl, h1, hL, h2, h3⟩, st⟩
  · dsimp only [Pt.U, Pt.locs, Pt.cells, Pt.slots] at X' e1 e2 h1 h2 h3 st
    subst h1; subst h2; subst h3
    exact Or.inl ⟨v, (T.setVm vm₁).calling g' mk As.toArray, t, U', L, hT, X', hL, e1, e2, hq, st⟩
  · dsimp only [Pt.U, Pt.locs, Pt.cells, Pt.slots] at X' e1 e2 h1 h2 h3 st hcl
    subst h1; subst h2; subst h3
    exact Or.inr ⟨q, (T.setVm vm₁).calling g' mk As.toArray, t, U', L, E, ce, hT, X', hL, e1, e2, hq, hce, hcv, vx_cls hW₁ hcl, st⟩
end Runs
section Rows
variable {p : Program} {l : Launch} {e : Env} {R : Room} {s : State} {m : MethodId} {args : Array Value} {below : List Frame} {meth : Method} {c : Code} {H : Heap} {locs : List Loc} {cells slots : Nat} {Q : State → Prop}
variable {mc ms : Nat} {free : Addr → Prop} {A0 A1 : Nat → Prop} {H0 : Heap} {a : Array Value} {pc : Nat} {ls : Array Slot} {st0 rest : List Value}
theorem vx_keep {st₀ t T' : State} {L : List Loc} (h0 : st₀.heap = H) (e1 : T'.heap = t.heap) (hS : va_S A0 H0 H locs) (hA : ∀ q, q < H.size → A1 q → A0 q) (hf : ∀ q, free q → A0 q) (hL : ∀ q ∈ L, free q.base) (hF : va_F A1 st₀ t) :
    H.size ≤ T'.heap.size ∧ (∀ q : Nat, q < H.size → ¬ A1 q → T'.heap[q]? = H[q]?) ∧ va_S A0 H0 T'.heap (locs ++ L) := by
  obtain ⟨hz, hk⟩ := hF
  rw [h0] at hz hk
  exact ⟨by rw [e1]; exact hz, fun q h1 h2 => by rw [e1]; exact hk q h1 h2,
    ⟨Nat.le_trans hS.1 (by rw [e1]; exact hz), fun q h1 h2 => by rw [e1, hk q (Nat.lt_of_lt_of_le h1 hS.1) (fun z => h2 (hA q (Nat.lt_of_lt_of_le h1 hS.1) z))]; exact hS.2.1 q h1 h2, fun q hq => by
      rcases List.mem_append.mp hq with h | h
      · exact hS.2.2 q h
      · exact hf _ (hL q h)⟩⟩
theorem vx_calli {S SX : Type} {post : Int32 → S → Prop} {px : SX → Prop} {B : S → State → Prop} {BX : String → SX → State → Prop} {AX : Nat → Prop} (hr : vx_Run p l e R s m args below meth c H locs cells slots mc ms (F0 m pc ls st0) rest (va_Qi post B A1 a) (vx_X px BX AX) free) (hS : va_S A0 H0 H locs) (hA : ∀ q, q < H.size → A1 q → A0 q) (hf : ∀ q, free q → A0 q) (hAX : ∀ q, q < H.size → AX q → A0 q)
    (kx : ∀ (E : String) (ce : Cell) (q9 : Addr) (u : SX) (t : State) (H1 : Heap) (locs1 : List Loc), t.heap = H1 → s.vm.Alike t.vm → px u → BX E u t → H.size ≤ H1.size → (∀ q : Nat, q < H.size → ¬ AX q → H1[q]? = H[q]?) → va_S A0 H0 H1 locs1 → H1[q9]? = some ce → ce.vm = .none → s.vm.findClass E = some ce.cls → vx_W p l e R s m args below meth c H1 locs1 (cells + mc) (slots + ms) Q (F0 m pc ls rest) q9)
    (kk : ∀ (r : Int32) (u : S) (t : State) (H1 : Heap) (locs1 : List Loc), t.heap = H1 → s.vm.Alike t.vm → post r u → B u t → H.size ≤ H1.size → (∀ q : Nat, q < H.size → ¬ A1 q → H1[q]? = H[q]?) → va_S A0 H0 H1 locs1 → W p l e R s m args below meth c H1 locs1 (cells + mc) (slots + ms) Q (F0 m (pc + 3) ls (.int r :: rest))) : W p l e R s m args below meth c H locs cells slots Q (F0 m pc ls st0) := by
  intro T hT X
  rcases hr T hT X with ⟨v, st₀, t, T', L, h0, X', hL, e1, e2, ⟨⟨r, u, hv, hp, hb⟩, hF⟩, st⟩ | ⟨q, st₀, t, T', L, E, ce, h0, X', hL, e1, e2, ⟨u, hp, hb, hF⟩, hce, hcv, hcl, st⟩
  · cases hv
    obtain ⟨k1, k2, k3⟩ := vx_keep h0 e1 hS hA hf hL hF
    obtain ⟨t2, a1, b1⟩ := kk r u t T'.heap (locs ++ L) e1.symm (by rw [← e2]; exact X'.warmed.alike) hp hb k1 k2 k3 T' rfl X'
    exact ⟨t2, st t2 a1, b1⟩
  · obtain ⟨k1, k2, k3⟩ := vx_keep h0 e1 hS hAX hf hL hF
    obtain ⟨t2, a1, b1⟩ := kx E ce q u t T'.heap (locs ++ L) e1.symm (by rw [← e2]; exact X'.warmed.alike) hp hb k1 k2 k3 (by rw [e1]; exact hce) hcv hcl T' rfl X'
    exact ⟨t2, st.trans a1, b1⟩
theorem vx_calll {S SX : Type} {post : Int64 → S → Prop} {px : SX → Prop} {B : S → State → Prop} {BX : String → SX → State → Prop} {AX : Nat → Prop} (hr : vx_Run p l e R s m args below meth c H locs cells slots mc ms (F0 m pc ls st0) rest (va_Ql post B A1 a) (vx_X px BX AX) free) (hS : va_S A0 H0 H locs) (hA : ∀ q, q < H.size → A1 q → A0 q) (hf : ∀ q, free q → A0 q) (hAX : ∀ q, q < H.size → AX q → A0 q)
    (kx : ∀ (E : String) (ce : Cell) (q9 : Addr) (u : SX) (t : State) (H1 : Heap) (locs1 : List Loc), t.heap = H1 → s.vm.Alike t.vm → px u → BX E u t → H.size ≤ H1.size → (∀ q : Nat, q < H.size → ¬ AX q → H1[q]? = H[q]?) → va_S A0 H0 H1 locs1 → H1[q9]? = some ce → ce.vm = .none → s.vm.findClass E = some ce.cls → vx_W p l e R s m args below meth c H1 locs1 (cells + mc) (slots + ms) Q (F0 m pc ls rest) q9)
    (kk : ∀ (r : Int64) (u : S) (t : State) (H1 : Heap) (locs1 : List Loc), t.heap = H1 → s.vm.Alike t.vm → post r u → B u t → H.size ≤ H1.size → (∀ q : Nat, q < H.size → ¬ A1 q → H1[q]? = H[q]?) → va_S A0 H0 H1 locs1 → W p l e R s m args below meth c H1 locs1 (cells + mc) (slots + ms) Q (F0 m (pc + 3) ls (.long r :: rest))) : W p l e R s m args below meth c H locs cells slots Q (F0 m pc ls st0) := by
  intro T hT X
  rcases hr T hT X with ⟨v, st₀, t, T', L, h0, X', hL, e1, e2, ⟨⟨r, u, hv, hp, hb⟩, hF⟩, st⟩ | ⟨q, st₀, t, T', L, E, ce, h0, X', hL, e1, e2, ⟨u, hp, hb, hF⟩, hce, hcv, hcl, st⟩
  · cases hv
    obtain ⟨k1, k2, k3⟩ := vx_keep h0 e1 hS hA hf hL hF
    obtain ⟨t2, a1, b1⟩ := kk r u t T'.heap (locs ++ L) e1.symm (by rw [← e2]; exact X'.warmed.alike) hp hb k1 k2 k3 T' rfl X'
    exact ⟨t2, st t2 a1, b1⟩
  · obtain ⟨k1, k2, k3⟩ := vx_keep h0 e1 hS hAX hf hL hF
    obtain ⟨t2, a1, b1⟩ := kx E ce q u t T'.heap (locs ++ L) e1.symm (by rw [← e2]; exact X'.warmed.alike) hp hb k1 k2 k3 (by rw [e1]; exact hce) hcv hcl T' rfl X'
    exact ⟨t2, st.trans a1, b1⟩
theorem vx_callf {S SX : Type} {post : UInt32 → S → Prop} {px : SX → Prop} {B : S → State → Prop} {BX : String → SX → State → Prop} {AX : Nat → Prop} (hr : vx_Run p l e R s m args below meth c H locs cells slots mc ms (F0 m pc ls st0) rest (va_Qf post B A1 a) (vx_X px BX AX) free) (hS : va_S A0 H0 H locs) (hA : ∀ q, q < H.size → A1 q → A0 q) (hf : ∀ q, free q → A0 q) (hAX : ∀ q, q < H.size → AX q → A0 q)
    (kx : ∀ (E : String) (ce : Cell) (q9 : Addr) (u : SX) (t : State) (H1 : Heap) (locs1 : List Loc), t.heap = H1 → s.vm.Alike t.vm → px u → BX E u t → H.size ≤ H1.size → (∀ q : Nat, q < H.size → ¬ AX q → H1[q]? = H[q]?) → va_S A0 H0 H1 locs1 → H1[q9]? = some ce → ce.vm = .none → s.vm.findClass E = some ce.cls → vx_W p l e R s m args below meth c H1 locs1 (cells + mc) (slots + ms) Q (F0 m pc ls rest) q9)
    (kk : ∀ (r : UInt32) (u : S) (t : State) (H1 : Heap) (locs1 : List Loc), t.heap = H1 → s.vm.Alike t.vm → post r u → B u t → H.size ≤ H1.size → (∀ q : Nat, q < H.size → ¬ A1 q → H1[q]? = H[q]?) → va_S A0 H0 H1 locs1 → W p l e R s m args below meth c H1 locs1 (cells + mc) (slots + ms) Q (F0 m (pc + 3) ls (.float r :: rest))) : W p l e R s m args below meth c H locs cells slots Q (F0 m pc ls st0) := by
  intro T hT X
  rcases hr T hT X with ⟨v, st₀, t, T', L, h0, X', hL, e1, e2, ⟨⟨r, u, hv, hp, hb⟩, hF⟩, st⟩ | ⟨q, st₀, t, T', L, E, ce, h0, X', hL, e1, e2, ⟨u, hp, hb, hF⟩, hce, hcv, hcl, st⟩
  · cases hv
    obtain ⟨k1, k2, k3⟩ := vx_keep h0 e1 hS hA hf hL hF
    obtain ⟨t2, a1, b1⟩ := kk r u t T'.heap (locs ++ L) e1.symm (by rw [← e2]; exact X'.warmed.alike) hp hb k1 k2 k3 T' rfl X'
    exact ⟨t2, st t2 a1, b1⟩
  · obtain ⟨k1, k2, k3⟩ := vx_keep h0 e1 hS hAX hf hL hF
    obtain ⟨t2, a1, b1⟩ := kx E ce q u t T'.heap (locs ++ L) e1.symm (by rw [← e2]; exact X'.warmed.alike) hp hb k1 k2 k3 (by rw [e1]; exact hce) hcv hcl T' rfl X'
    exact ⟨t2, st.trans a1, b1⟩
theorem vx_calld {S SX : Type} {post : UInt64 → S → Prop} {px : SX → Prop} {B : S → State → Prop} {BX : String → SX → State → Prop} {AX : Nat → Prop} (hr : vx_Run p l e R s m args below meth c H locs cells slots mc ms (F0 m pc ls st0) rest (va_Qd post B A1 a) (vx_X px BX AX) free) (hS : va_S A0 H0 H locs) (hA : ∀ q, q < H.size → A1 q → A0 q) (hf : ∀ q, free q → A0 q) (hAX : ∀ q, q < H.size → AX q → A0 q)
    (kx : ∀ (E : String) (ce : Cell) (q9 : Addr) (u : SX) (t : State) (H1 : Heap) (locs1 : List Loc), t.heap = H1 → s.vm.Alike t.vm → px u → BX E u t → H.size ≤ H1.size → (∀ q : Nat, q < H.size → ¬ AX q → H1[q]? = H[q]?) → va_S A0 H0 H1 locs1 → H1[q9]? = some ce → ce.vm = .none → s.vm.findClass E = some ce.cls → vx_W p l e R s m args below meth c H1 locs1 (cells + mc) (slots + ms) Q (F0 m pc ls rest) q9)
    (kk : ∀ (r : UInt64) (u : S) (t : State) (H1 : Heap) (locs1 : List Loc), t.heap = H1 → s.vm.Alike t.vm → post r u → B u t → H.size ≤ H1.size → (∀ q : Nat, q < H.size → ¬ A1 q → H1[q]? = H[q]?) → va_S A0 H0 H1 locs1 → W p l e R s m args below meth c H1 locs1 (cells + mc) (slots + ms) Q (F0 m (pc + 3) ls (.double r :: rest))) : W p l e R s m args below meth c H locs cells slots Q (F0 m pc ls st0) := by
  intro T hT X
  rcases hr T hT X with ⟨v, st₀, t, T', L, h0, X', hL, e1, e2, ⟨⟨r, u, hv, hp, hb⟩, hF⟩, st⟩ | ⟨q, st₀, t, T', L, E, ce, h0, X', hL, e1, e2, ⟨u, hp, hb, hF⟩, hce, hcv, hcl, st⟩
  · cases hv
    obtain ⟨k1, k2, k3⟩ := vx_keep h0 e1 hS hA hf hL hF
    obtain ⟨t2, a1, b1⟩ := kk r u t T'.heap (locs ++ L) e1.symm (by rw [← e2]; exact X'.warmed.alike) hp hb k1 k2 k3 T' rfl X'
    exact ⟨t2, st t2 a1, b1⟩
  · obtain ⟨k1, k2, k3⟩ := vx_keep h0 e1 hS hAX hf hL hF
    obtain ⟨t2, a1, b1⟩ := kx E ce q u t T'.heap (locs ++ L) e1.symm (by rw [← e2]; exact X'.warmed.alike) hp hb k1 k2 k3 (by rw [e1]; exact hce) hcv hcl T' rfl X'
    exact ⟨t2, st.trans a1, b1⟩
theorem vx_callv {S SX : Type} {post : S → Prop} {px : SX → Prop} {B : S → State → Prop} {BX : String → SX → State → Prop} {AX : Nat → Prop} (hr : vx_Run p l e R s m args below meth c H locs cells slots mc ms (F0 m pc ls st0) rest (va_Qv post B A1 a) (vx_X px BX AX) free) (hS : va_S A0 H0 H locs) (hA : ∀ q, q < H.size → A1 q → A0 q) (hf : ∀ q, free q → A0 q) (hAX : ∀ q, q < H.size → AX q → A0 q)
    (kx : ∀ (E : String) (ce : Cell) (q9 : Addr) (u : SX) (t : State) (H1 : Heap) (locs1 : List Loc), t.heap = H1 → s.vm.Alike t.vm → px u → BX E u t → H.size ≤ H1.size → (∀ q : Nat, q < H.size → ¬ AX q → H1[q]? = H[q]?) → va_S A0 H0 H1 locs1 → H1[q9]? = some ce → ce.vm = .none → s.vm.findClass E = some ce.cls → vx_W p l e R s m args below meth c H1 locs1 (cells + mc) (slots + ms) Q (F0 m pc ls rest) q9)
    (kk : ∀ (u : S) (t : State) (H1 : Heap) (locs1 : List Loc), t.heap = H1 → s.vm.Alike t.vm → post u → B u t → H.size ≤ H1.size → (∀ q : Nat, q < H.size → ¬ A1 q → H1[q]? = H[q]?) → va_S A0 H0 H1 locs1 → W p l e R s m args below meth c H1 locs1 (cells + mc) (slots + ms) Q (F0 m (pc + 3) ls (rest))) : W p l e R s m args below meth c H locs cells slots Q (F0 m pc ls st0) := by
  intro T hT X
  rcases hr T hT X with ⟨v, st₀, t, T', L, h0, X', hL, e1, e2, ⟨⟨u, hv, hp, hb⟩, hF⟩, st⟩ | ⟨q, st₀, t, T', L, E, ce, h0, X', hL, e1, e2, ⟨u, hp, hb, hF⟩, hce, hcv, hcl, st⟩
  · cases hv
    obtain ⟨k1, k2, k3⟩ := vx_keep h0 e1 hS hA hf hL hF
    obtain ⟨t2, a1, b1⟩ := kk u t T'.heap (locs ++ L) e1.symm (by rw [← e2]; exact X'.warmed.alike) hp hb k1 k2 k3 T' rfl X'
    exact ⟨t2, st t2 a1, b1⟩
  · obtain ⟨k1, k2, k3⟩ := vx_keep h0 e1 hS hAX hf hL hF
    obtain ⟨t2, a1, b1⟩ := kx E ce q u t T'.heap (locs ++ L) e1.symm (by rw [← e2]; exact X'.warmed.alike) hp hb k1 k2 k3 (by rw [e1]; exact hce) hcv hcl T' rfl X'
    exact ⟨t2, st.trans a1, b1⟩
/-- caught by the row x of this method's table; the rows ahead don't take it -/
theorem vx_catch {own name : String} {E : String} {ce : Cell} {q : Addr} (hown : s.vm.findClass own = some m.cls) (pre : List ExceptionTableEntry) (x : ExceptionTableEntry) (suf : List ExceptionTableEntry) (hsplit : c.exceptionTable.toList = pre ++ x :: suf)
    (hpass : ∀ z ∈ pre, covers z pc = false ∨ (z.catchType ≠ 0 ∧ ∃ nm : String, (Cond.classLink own z.catchType nm).before args s = true ∧ va_Nc E nm s)) (hx : covers x pc = true) (h0 : x.catchType ≠ 0)
    (hlink : (Cond.classLink own x.catchType name).before args s = true) (hcast : (Cond.castable E name).before args s = true) (hcell : H[q]? = some ce) (hv : ce.vm = .none) (hcl : s.vm.findClass E = some ce.cls)
    (kk : W p l e R s m args below meth c H locs cells slots Q (F0 m x.handlerPc ls [.ref q])) : vx_W p l e R s m args below meth c H locs cells slots Q (F0 m pc ls rest) q := by
  intro T hT X
  have hpl : e.platform.magicAccessors = ({} : Platform).magicAccessors := by rw [X.admits.platform]
  obtain ⟨c3, c4, hc3, hc4, hasg⟩ := Cond.castable_spec hcast
  cases Option.some.inj (hc3.symm.trans hcl)
  obtain ⟨c5, hc5, hcl5⟩ := Cond.classLink_spec hown hlink e.platform hpl
  cases Option.some.inj (hc4.symm.trans hc5)
  obtain ⟨vm', X', st⟩ := X.thenCaughtThrough q (g := F0 m pc ls rest) rfl (Steps.refl _) (by rw [hT]; exact hcell) (by rw [hv]; rfl) (by obtain ⟨k9, h9, -⟩ := Vm.findClass_spec hcl; exact ⟨k9, h9⟩) pre x suf hsplit
    (fun z hz => by
      rcases hpass z hz with h | ⟨hz0, nm, hl1, hn1⟩
      · exact Or.inl h
      · obtain ⟨c6, hc6, hcl6⟩ := Cond.classLink_spec hown hl1 e.platform hpl
        obtain ⟨a8, b8, h1, h2, h3⟩ := hn1
        cases Option.some.inj (h1.symm.trans hcl)
        cases Option.some.inj (h2.symm.trans hc6)
        exact Or.inr ⟨hz0, _, hcl6, h3⟩) hx (Or.inr ⟨h0, c4, hcl5, hasg⟩)
  obtain ⟨t, a1, b1⟩ := kk (T.setVm vm') hT X'
  exact ⟨t, st.trans a1, b1⟩
end Rows
section Ends
variable {p : Program} {l : Launch} {e : Env} {R : Room} {s : State} {m : MethodId} {args : Array Value} {below : List Frame} {meth : Method} {c : Code} {H : Heap} {locs : List Loc} {cells slots : Nat} {Q : State → Prop}
variable {mc ms : Nat} {free : Addr → Prop} {A0 A1 : Nat → Prop} {H0 : Heap} {a : Array Value} {ls : Array Slot} {st0 rest : List Value}
variable {Qc : Array Value → State → Outcome → State → Prop} {XC : String → State → State → Prop}
/-- what a body that may throw owes at its end -/
def vx_MQ (below : List Frame) (Qc : Array Value → State → Outcome → State → Prop) (XC : String → State → State → Prop) (a : Array Value) (s : State) (mc ms : Nat) (free : Addr → Prop) : State → Prop := fun t =>
  ∃ o, t.status = .running ∧ Ended t below o ∧ vx_Q Qc XC mc ms free a s o t
theorem vx_ret {g : JFrame} {mc ms : Nat} (k : W p l e R s m args below meth c H locs cells slots (MQ below Qc args s mc ms free) g) : W p l e R s m args below meth c H locs cells slots (vx_MQ below Qc XC args s mc ms free) g := by
  intro T hT X
  obtain ⟨t, a1, o, b1, b2, b3, b4⟩ := k T hT X
  exact ⟨t, a1, o, b1, b2, Or.inl ⟨b3, b4⟩⟩
/-- not caught here: it goes on to the caller -/
theorem vx_widen {g : JFrame} {q : Addr} {k n : Nat} (h1 : cells ≤ k) (h2 : slots ≤ n) (kk : vx_W p l e R s m args below meth c H locs k n Q g q) : vx_W p l e R s m args below meth c H locs cells slots Q g q := fun T hT X => kk T hT (stand_widen X h1 h2)
theorem vx_out {pc : Nat} {E : String} {ce : Cell} {q : Addr} {mc ms : Nat} (hout : ∀ x ∈ c.exceptionTable.toList, covers x pc = false) (hlocks : meth.locks = false) (hcell : H[q]? = some ce) (hv : ce.vm = .none) (hcl : s.vm.findClass E = some ce.cls)
    (hx : ∀ t : State, t.heap = H → s.vm.Alike t.vm → XC E s t) (hf : ∀ z ∈ locs, free z.base) (hc : cells ≤ mc) (hs : slots ≤ ms) :
    vx_W p l e R s m args below meth c H locs cells slots (vx_MQ below Qc XC args s mc ms free) (F0 m pc ls rest) q := by
  intro T hT X
  obtain ⟨st1, hrun, hend, hW, hsm⟩ := X.leaveThrown q (g := F0 m pc ls rest) rfl rfl rfl hout hlocks
  have hcell9 : (T.setFrames (.throwing q :: below)).heap[q]? = some ce := by
    show T.heap[q]? = some ce
    rw [hT]; exact hcell
  exact ⟨_, st1, .threw q, hrun, hend, Or.inr ⟨q, rfl, E, ce, locs, hx _ hT hW.alike, hcell9, hv, hcl, hW, hsm.mono hc hs, hf⟩⟩
theorem vx_frame {U : State} {k n : Nat} (h : s.sameButNew ({ U with vm := s.vm } : State) locs k n) : s.heap.size ≤ U.heap.size ∧ ∀ q : Nat, q < s.heap.size → (∀ z ∈ locs, z.base ≠ q) → U.heap[q]? = s.heap[q]? := by
  obtain ⟨-, h2, -, -, -, h6⟩ := h
  refine ⟨h2, fun q hq hz => ?_⟩
  obtain ⟨c9, e1, e2, e3, e4⟩ := h6 q _ (Array.getElem?_eq_getElem hq)
  have hs : c9.slots = (s.heap[q]).slots := Array.ext_getElem? fun i => e4 i fun hm => hz _ hm rfl
  have h9 : c9 = s.heap[q] := by
    rw [hs] at e2
    exact e2
  have e5 : U.heap[q]? = some c9 := e1
  rw [e5, h9, Array.getElem?_eq_getElem hq]
/-- the words of a throw but the four that speak of the heap -/
def vx_no (w : Cond) : Bool := decide (w ≠ .isRef (.static Bundle.tN "UNASSIGNED_STACK" Bundle.steD)) && decide (w ≠ .isRef (.static Bundle.tN "SUPPRESSED_SENTINEL" Bundle.listD)) && decide (w ≠ .laysStatic Bundle.tN "UNASSIGNED_STACK" Bundle.steD) && decide (w ≠ .laysStatic Bundle.tN "SUPPRESSED_SENTINEL" Bundle.listD)
def vx_at0 (own : String) (ic : Nat) (X : String) (names : List String) : List Cond := (Bundle.ownAtoms0 own ic X names).filter vx_no
def vx_atS (own : String) (ic : Nat) (X : String) (names : List String) : List Cond := (Bundle.ownAtoms own ic X names).filter vx_no
/-- a word that the tables alone decide, or a good one -/
def vx_ot (w : Cond) : Bool := w.onTables || goodWord w
theorem vx_ot_at {args a' : Array Value} {s U : State} {w : Cond} (hW : s.WarmedH U.vm) (hvm : s.vm = U.vm) (hg : vx_ot w = true) (h : w.before args s = true) : w.before a' U = true := by
  simp only [vx_ot, Bool.or_eq_true] at hg
  rcases hg with hg | hg
  · exact va_tabs hg hvm h
  · exact word_at hW (good_of_word hg) h
/-- a list's words: the good ones out of the method's own list, the others by premises of their own -/
theorem vx_hat {args : Array Value} {s : State} {L B : List Cond} (h1 : ∀ w ∈ L.filter goodWord, w.before args s = true) (h2 : ∀ w ∈ L.filter (fun w => !goodWord w), w ∈ B) (h3 : ∀ w ∈ B, w.before args s = true) : ∀ w ∈ L, w.before args s = true := by
  intro w hw
  by_cases g : goodWord w = true
  · exact h1 w (List.mem_filter.mpr ⟨hw, g⟩)
  · refine h3 w (h2 w (List.mem_filter.mpr ⟨hw, ?_⟩))
    show (!goodWord w) = true
    cases hgw : goodWord w
    · rfl
    · exact absurd hgw g
theorem vx_c {args : Array Value} {s : State} {w : Cond} {B : List Cond} (h : w.before args s = true) (t : ∀ w ∈ B, w.before args s = true) : ∀ w' ∈ w :: B, w'.before args s = true := fun w' h' => (List.mem_cons.mp h').elim (fun e => by rw [e]; exact h) (t w')
theorem vx_n {args : Array Value} {s : State} : ∀ w ∈ ([] : List Cond), w.before args s = true := fun _ h => nomatch h
theorem vx_own {args : Array Value} {s : State} {L : List Cond} (h1 : ∀ w ∈ L.filter vx_no, w.before args s = true)
    (hU : (Cond.isRef (.static Bundle.tN "UNASSIGNED_STACK" Bundle.steD)).before args s = true) (hN : (Cond.isRef (.static Bundle.tN "SUPPRESSED_SENTINEL" Bundle.listD)).before args s = true)
    (lU : (Cond.laysStatic Bundle.tN "UNASSIGNED_STACK" Bundle.steD).before args s = true) (lN : (Cond.laysStatic Bundle.tN "SUPPRESSED_SENTINEL" Bundle.listD).before args s = true) : ∀ w ∈ L, w.before args s = true := by
  intro w hw
  by_cases e1 : w = .isRef (.static Bundle.tN "UNASSIGNED_STACK" Bundle.steD)
  · rw [e1]; exact hU
  · by_cases e2 : w = .isRef (.static Bundle.tN "SUPPRESSED_SENTINEL" Bundle.listD)
    · rw [e2]; exact hN
    · by_cases e3 : w = .laysStatic Bundle.tN "UNASSIGNED_STACK" Bundle.steD
      · rw [e3]; exact lU
      · by_cases e4 : w = .laysStatic Bundle.tN "SUPPRESSED_SENTINEL" Bundle.listD
        · rw [e4]; exact lN
        · exact h1 w (List.mem_filter.mpr ⟨hw, by unfold vx_no; rw [decide_eq_true e1, decide_eq_true e2, decide_eq_true e3, decide_eq_true e4]; rfl⟩)
/-- where a static field lies, its class's statics cell in H -/
def vx_L (C n d : String) (A : Nat → Prop) (U : State) (H : Heap) : Prop := ∃ (c : ClassId) (k : Class) (i : Nat) (f : Field) (a : Nat) (cell : Cell), U.vm.findClass C = some c ∧ U.fieldFound? C n d = some (c, k, i, f) ∧ f.isStatic = true ∧ k.statics = some a ∧ H[a]? = some cell ∧ cell.vm.isStatics = true ∧ cell.cls = c ∧ f.slot < cell.slots.size ∧ k.staticTypes[f.slot]? = some f.type ∧ ¬ A a
theorem vx_L.moved {C n d : String} {A : Nat → Prop} {u U : State} {H : Heap} (hvm : u.vm.Alike U.vm) (h : vx_L C n d A u H) : vx_L C n d A U H := by
  obtain ⟨c, k, i, f, a, cell, h1, h2, h3, h4, h5, h6, h7, h8, h9, h10⟩ := h
  obtain ⟨k', hi', he⟩ := State.fieldFound?_setVm hvm h2
  exact ⟨c, k', i, f, a, cell, by rw [hvm.findClass]; exact h1, hi', h3, by rw [he]; exact h4, h5, h6, h7, h8, by rw [he]; exact h9, h10⟩
theorem vx_L.kept {C n d : String} {A : Nat → Prop} {U : State} {H H1 : Heap} (h : vx_L C n d A U H) (hq : ∀ a : Nat, a < H.size → ¬ A a → H1[a]? = H[a]?) : vx_L C n d A U H1 := by
  obtain ⟨c, k, i, f, a, cell, h1, h2, h3, h4, h5, h6, h7, h8, h9, h10⟩ := h
  exact ⟨c, k, i, f, a, cell, h1, h2, h3, h4, by rw [hq a (Array.getElem?_eq_some_iff.mp h5).1 h10]; exact h5, h6, h7, h8, h9, h10⟩
theorem vx_L.narrow {C n d : String} {A B : Nat → Prop} {U : State} {H : Heap} (h : vx_L C n d A U H) (hAB : ∀ q, B q → A q) : vx_L C n d B U H := by
  obtain ⟨c, k, i, f, a, cell, h1, h2, h3, h4, h5, h6, h7, h8, h9, h10⟩ := h
  exact ⟨c, k, i, f, a, cell, h1, h2, h3, h4, h5, h6, h7, h8, h9, fun z => h10 (hAB _ z)⟩
theorem vx_L.word {C n d : String} {A : Nat → Prop} {s : State} {args : Array Value} (h : vx_L C n d A s s.heap) : (Cond.laysStatic C n d).before args s = true := by
  obtain ⟨c, k, i, f, a, cell, h1, h2, h3, h4, h5, h6, h7, h8, h9, -⟩ := h
  show (Cond.laysStatic C n d).holds args s none s [] = true
  exact Cond.laysStatic_of h1 h2 h3 h4 h5 h6 h7 h8 h9
/-- .. and what it holds: null or some reference -/
def vx_Zq (C n d : String) (A : Nat → Prop) (U : State) (H : Heap) : Prop := va_Zq C n d A U H ∧ vx_L C n d A U H
theorem vx_Zq.moved {C n d : String} {A : Nat → Prop} {u U : State} {H : Heap} (hvm : u.vm.Alike U.vm) (h : vx_Zq C n d A u H) : vx_Zq C n d A U H := ⟨va_Zq.moved hvm h.1, vx_L.moved hvm h.2⟩
theorem vx_Zq.kept {C n d : String} {A : Nat → Prop} {U : State} {H H1 : Heap} (h : vx_Zq C n d A U H) (hq : ∀ a : Nat, a < H.size → ¬ A a → H1[a]? = H[a]?) : vx_Zq C n d A U H1 := ⟨va_Zq.kept h.1 hq, vx_L.kept h.2 hq⟩
theorem vx_Zq.narrow {C n d : String} {A B : Nat → Prop} {U : State} {H : Heap} (h : vx_Zq C n d A U H) (hAB : ∀ q, B q → A q) : vx_Zq C n d B U H := ⟨va_Zq.narrow h.1 hAB, vx_L.narrow h.2 hAB⟩
theorem vx_Zqof {args : Array Value} {s : State} {C n d : String} {A : Nat → Prop} (hl : (Cond.laysStatic C n d).before args s = true) (hini : (Cond.initialized C).before args s = true) (h : (Cond.isRef (.static C n d)).before args s = true) (hA : ∀ a : Nat, a < s.heap.size → ¬ A a) : vx_Zq C n d A s s.heap := by
  refine ⟨va_Zqof hl hini h hA, ?_⟩
  obtain ⟨c, k, i, f, a, cell, h1, h2, h3, h4, h5, h6, h7, h8, h9⟩ := Cond.laysStatic_spec hl
  exact ⟨c, k, i, f, a, cell, h1, h2, h3, h4, h5, h6, h7, h8, h9, hA a (Array.getElem?_eq_some_iff.mp h5).1⟩
theorem vx_isRef {C n d : String} {v : Value} {A : Nat → Prop} {s : State} {args : Array Value} (h : va_Z C n d v A s s.heap) (hv : v.isRef = true) : (Cond.isRef (.static C n d)).before args s = true := by
  obtain ⟨cf, kf, fi, f, a, cell, h1, h2, h3, h4, h5, h6, h7, -⟩ := h
  have he : (Term.static C n d).eval args s none [] s = some v := by
    simp [Term.eval, State.fieldNamed?, h1, h2, h4, h5, h6, h7]
  simp only [Cond.before, Cond.holds, Cond.value, he]
  cases v <;> simp_all [Value.isRef]
theorem vx_isRefq {C n d : String} {A : Nat → Prop} {s : State} {args : Array Value} (h : va_Zq C n d A s s.heap) : (Cond.isRef (.static C n d)).before args s = true := by
  rcases h with h | ⟨t, h⟩
  · exact vx_isRef h rfl
  · exact vx_isRef h rfl
/-- the same frame, seen from here: as if the method were called anew in this heap -/
theorem vx_rebase {T : State} (X : Stand p l e R s m args below meth c T locs cells slots) {R' : Room} (hf : R'.frames ≤ R.frames) (hl : R'.locals ≤ R.locals) (hc : cells + R'.cells ≤ R.cells) (hs : slots + R'.slots ≤ R.slots) :
    Stand p l e R' ((T.setVm s.vm).setFrames (.invoking m args :: below)) m args below meth c T [] 0 0 := by
  have htop : (T.setVm s.vm).topJava?.isSome := X.here.top
  have hF : ((T.setVm s.vm).setFrames (.invoking m args :: below)).frames = .invoking m args :: below := State.frames_setFrames _ (State.cur_lt_of_top htop)
  obtain ⟨g₀, hg0⟩ := Option.isSome_iff_exists.mp htop
  obtain ⟨r, hr⟩ := State.topJava?_eq_some.mp hg0
  have hl9 : e.platform.stackLimits (T.setVm s.vm).me = e.platform.stackLimits s.me := X.limits
  have hb9 : (T.setVm s.vm).me.stackBytes = s.me.stackBytes := X.bytes
  refine ⟨X.admits, X.cas, X.clock, hF, ?_, X.hears, X.method, X.code, X.here, X.tail, X.warmed, ?_, ?_, ?_⟩
  · have h := X.room
    have hU : ((T.setVm s.vm).setFrames (.invoking m args :: below)).localsInUse = s.localsInUse := by
      rw [State.localsInUse_invoking hF (meth := meth) (c := c) X.method X.code, State.localsInUse_invoking X.frames X.method X.code]
    simp only [State.hasRoom, Bool.and_eq_true, decide_eq_true_eq] at h ⊢
    obtain ⟨⟨⟨⟨h1, h2, h3, h4, h5, h6⟩, h7⟩, h8⟩, h9⟩ := h
    rw [X.frames, List.length_cons] at h2 h3
    have q1 := X.heapSize
    have q2 := X.used
    simp only [hF, hU, List.length_cons, State.stackLimits_setFrames, State.stackBytes_setFrames, hl9, hb9]
    refine ⟨⟨⟨⟨by omega, by omega, by omega, by omega, by omega, h6⟩, ?_⟩, ?_⟩, X.book⟩
    · show T.heap.size + R'.cells ≤ e.platform.maxCells
      omega
    · show T.slotsUsed + R'.slots ≤ e.platform.maxSlots
      omega
  · rw [State.stackLimits_setFrames]; rfl
  · rw [State.stackBytes_setFrames]; rfl
  · refine ⟨?_, Nat.le_refl _, Nat.le_refl _, ?_, ?_, fun a c9 h9 => ⟨c9, h9, rfl, rfl, fun _ _ => rfl⟩⟩
    · obtain ⟨t, ht, -⟩ := State.frames_cons hr
      show T.setVm s.vm = { ((T.setVm s.vm).setFrames (.invoking m args :: below)).setFrames (T.setVm s.vm).frames with heap := T.heap, slotsUsed := T.slotsUsed }
      rw [State.setFrames_setFrames, State.setFrames_self ht]
      rfl
    · show T.slotsUsed = T.slotsUsed + ((T.heap.toList.drop T.heap.size).map (·.slots.size)).sum
      rw [List.drop_eq_nil_of_le (Nat.le_of_eq Array.length_toList)]
      rfl
    · show ((T.heap.toList.drop T.heap.size).map (·.slots.size)).sum ≤ 0
      rw [List.drop_eq_nil_of_le (Nat.le_of_eq Array.length_toList)]
      exact Nat.le_refl _
/-- 'throw new E()': new; dup; invokespecial; athrow -/
theorem vx_throw0 {cc : ByteArray} {pc : Nat} (hexec : p.tables.exec = Jvm.exec) (hb : c.code = cc) (hl : l.stackTraces = false) {own cls : String} {names : List String} {ik ic mc ms : Nat} {A : Nat → Prop}
    (hown : s.vm.findClass own = some m.cls) (hcls : Bundle.fit cls = true) (hnames : ∀ n ∈ names, Bundle.fit n = true)
    (hk : (Cond.classLink own ik cls).before args s = true) (hini : (Cond.initialized cls).before args s = true) (hat : ∀ w ∈ vx_at0 own ic cls names, w.before args s = true)
    (hgood : ∀ w ∈ Cond.classLink own ik cls :: Cond.initialized cls :: vx_at0 own ic cls names, vx_ot w = true)
    (hU : vx_Zq Bundle.tN "UNASSIGNED_STACK" Bundle.steD A s s.heap) (hN : vx_Zq Bundle.tN "SUPPRESSED_SENTINEL" Bundle.listD A s s.heap) (hS : va_S A s.heap H locs) (hsize : ls.size = c.maxLocals)
    (d0 : decode cc pc = .ok (.new ik, 3)) (d3 : decode cc (pc + 3) = .ok (.dup, 1)) (d4 : decode cc (pc + 4) = .ok (.invokespecial ic, 3)) (d7 : decode cc (pc + 7) = .ok (.athrow, 1))
    (hout : ∀ x ∈ c.exceptionTable.toList, covers x (pc + 7) = false)
    (hRframes : names.length + 3 < R.frames) (hRlocals : (rest.map fun v => v.category).sum + (13 * (names.length + 1) + 42) ≤ R.locals) (hRcells : cells + 1 ≤ R.cells) (hRslots : slots + 6 ≤ R.slots) (hlocks : meth.locks = false)
    (hx : ∀ t : State, s.vm.Alike t.vm → H.size ≤ t.heap.size → (∀ q : Nat, q < H.size → t.heap[q]? = H[q]?) → XC cls s t)
    (hf : ∀ z ∈ locs, free z.base) (hc : cells + 1 ≤ mc) (hs : slots + 6 ≤ ms) :
    W p l e R s m args below meth c H locs cells slots (vx_MQ below Qc XC args s mc ms free) (F0 m pc ls rest) := by
  intro T hT X
  have htr : e.platform.stackTraces = false := (show e.platform.stackTraces = l.stackTraces by rw [X.admits.platform]).trans hl
  have Y := vx_rebase X (R' := { frames := R.frames, locals := R.locals, cells := 1, slots := 6 }) (Nat.le_refl _) (Nat.le_refl _) hRcells hRslots
  obtain ⟨s', hA⟩ : ∃ z, z = (T.setVm s.vm).setFrames (.invoking m args :: below) := ⟨_, rfl⟩
  rw [← hA] at Y
  have hvm : s'.vm = s.vm := by rw [hA]; rfl
  have hhp : s'.heap = H := by rw [hA]; exact hT
  have hW0 : s.WarmedH s'.vm := by rw [hvm]; exact State.WarmedH.refl s
  have hat' : ∀ w ∈ vx_at0 own ic cls names, w.before args s' = true := fun w hw => vx_ot_at hW0 hvm.symm (hgood w (List.mem_cons_of_mem _ (List.mem_cons_of_mem _ hw))) (hat w hw)
  have hk' : (Cond.classLink own ik cls).before args s' = true := vx_ot_at hW0 hvm.symm (hgood _ List.mem_cons_self) hk
  have hini' : (Cond.initialized cls).before args s' = true := vx_ot_at hW0 hvm.symm (hgood _ (List.mem_cons_of_mem _ List.mem_cons_self)) hini
  have hU' : vx_Zq Bundle.tN "UNASSIGNED_STACK" Bundle.steD A s' s'.heap := by rw [hhp]; exact vx_Zq.moved hW0.alike (hU.kept hS.2.1)
  have hN' : vx_Zq Bundle.tN "SUPPRESSED_SENTINEL" Bundle.listD A s' s'.heap := by rw [hhp]; exact vx_Zq.moved hW0.alike (hN.kept hS.2.1)
  have h : ∀ w ∈ Bundle.ownAtoms0 own ic cls names, w.before args s' = true := vx_own hat' (vx_isRefq hU'.1) (vx_isRefq hN'.1) hU'.2.word hN'.2.word
  have hown' : s'.vm.findClass own = some m.cls := by rw [hvm]; exact hown
  have hins : (Cond.instantiable cls 6).before args s' = true := h _ (by simp [Bundle.ownAtoms0])
  obtain ⟨vm₁, cX, kX, hfX, hkX, -, -, X₁, st1⟩ := Y.newCold hexec (own := own) (C := cls) (index := ik) (n := 6) hown' hk' hins hini'
    (g := F0 m pc ls rest) rfl (by rw [hb]; exact d0) (Nat.le_refl _) (Nat.le_refl _)
  generalize hT1 : (T.setVm vm₁).pushCell { cls := cX, slots := kX.instanceTypes.map defaultValue, vm := .none } = T1 at X₁ st1
  have hcat : (Value.ref T.heap.size).category = 1 := rfl
  have hcellA : T1.heap[T.heap.size]? = some (freshCell cX kX) := by rw [← hT1]; exact State.heap_pushCell_size _ _
  have d3' : decode c.code (pc + 3) = .ok (.dup, 1) := by rw [hb]; exact d3
  obtain ⟨U, hsteps, hrun, hend, hW, hsame, ce, hce, hO⟩ := X₁.ctorThrow0 hexec htr (own := own) (cls := cls) (names := names) (ic := ic) hown' hcls hnames h (fun x hx => nomatch hx) hfX hkX hcellA (by rw [hhp, hT]; exact Nat.le_refl _)
    (g := { method := m, pc := pc + 4, locals := ls, stack := .ref T.heap.size :: .ref T.heap.size :: rest, locked := none }) rfl hsize rfl rfl (rest := rest) rfl
    (by rw [hb]; exact d4) (by rw [hb]; exact d7) hout hRframes (by simp only [List.map_cons, List.sum_cons, hcat]; omega) hlocks
  obtain ⟨f1, f2⟩ := vx_frame hsame
  rw [hhp] at f1 f2
  have hWs : s.WarmedH U.vm := State.WarmedH.trans hW0 hW
  have hcl : s.vm.findClass cls = some ce.cls := by
    have h9 := hO.cls
    rw [hvm] at h9
    exact h9
  have hall : s.sameButNew ({ U with vm := s.vm } : State) locs mc ms := by
    subst hA
    obtain ⟨e1, e2⟩ := hsame
    rw [State.setFrames_setFrames] at e1
    have h2 : (T.setVm s.vm).sameButNew ({ U with vm := s.vm } : State) [] (0 + 1) (0 + 6) := ⟨e1, e2⟩
    have h3 := X.same.trans h2
    rw [List.append_nil] at h3
    exact h3.mono hc hs
  refine ⟨U, ?_, .threw T.heap.size, hrun, hend, Or.inr ⟨T.heap.size, rfl, cls, ce, locs, hx U hWs.alike f1 (fun q hq => f2 q hq (fun z hz => nomatch hz)), hce, hO.vm, hcl, hWs, hall, hf⟩⟩
  refine st1 _ ?_
  show Steps p.tables e below (T1.setTop { method := m, pc := pc + 3, locals := ls, stack := .ref T.heap.size :: rest, locked := none }) _
  jvm_step X₁.here [X₁.here.top, hexec, d3', Value.category]
  exact hsteps
/-- 'throw new E("text")': new; dup; ldc; invokespecial; athrow -/
theorem vx_throwS {cc : ByteArray} {pc : Nat} (hexec : p.tables.exec = Jvm.exec) (hb : c.code = cc) (hl : l.stackTraces = false) {own cls text : String} {names : List String} {ik is ic mc ms sa : Nat} {A : Nat → Prop}
    (hown : s.vm.findClass own = some m.cls) (hcls : Bundle.fit cls = true) (hnames : ∀ n ∈ names, Bundle.fit n = true)
    (hk : (Cond.classLink own ik cls).before args s = true) (hini : (Cond.initialized cls).before args s = true) (hstr : vk_R own is text sa s) (hat : ∀ w ∈ vx_atS own ic cls names, w.before args s = true)
    (hgood : ∀ w ∈ Cond.classLink own ik cls :: Cond.initialized cls :: vx_atS own ic cls names, vx_ot w = true)
    (hU : vx_Zq Bundle.tN "UNASSIGNED_STACK" Bundle.steD A s s.heap) (hN : vx_Zq Bundle.tN "SUPPRESSED_SENTINEL" Bundle.listD A s s.heap) (hS : va_S A s.heap H locs) (hsize : ls.size = c.maxLocals)
    (d0 : decode cc pc = .ok (.new ik, 3)) (d3 : decode cc (pc + 3) = .ok (.dup, 1)) (d4 : decode cc (pc + 4) = .ok (.ldc is, 2)) (d6 : decode cc (pc + 6) = .ok (.invokespecial ic, 3)) (d9 : decode cc (pc + 9) = .ok (.athrow, 1))
    (hout : ∀ x ∈ c.exceptionTable.toList, covers x (pc + 9) = false)
    (hRframes : names.length + 3 < R.frames) (hRlocals : (rest.map fun v => v.category).sum + (13 * (names.length + 1) + 43) ≤ R.locals) (hRcells : cells + 1 ≤ R.cells) (hRslots : slots + 6 ≤ R.slots) (hlocks : meth.locks = false)
    (hx : ∀ t : State, s.vm.Alike t.vm → H.size ≤ t.heap.size → (∀ q : Nat, q < H.size → t.heap[q]? = H[q]?) → XC cls s t)
    (hf : ∀ z ∈ locs, free z.base) (hc : cells + 1 ≤ mc) (hs : slots + 6 ≤ ms) :
    W p l e R s m args below meth c H locs cells slots (vx_MQ below Qc XC args s mc ms free) (F0 m pc ls rest) := by
  intro T hT X
  have htr : e.platform.stackTraces = false := (show e.platform.stackTraces = l.stackTraces by rw [X.admits.platform]).trans hl
  have Y := vx_rebase X (R' := { frames := R.frames, locals := R.locals, cells := 1, slots := 6 }) (Nat.le_refl _) (Nat.le_refl _) hRcells hRslots
  obtain ⟨s', hA⟩ : ∃ z, z = (T.setVm s.vm).setFrames (.invoking m args :: below) := ⟨_, rfl⟩
  rw [← hA] at Y
  have hvm : s'.vm = s.vm := by rw [hA]; rfl
  have hhp : s'.heap = H := by rw [hA]; exact hT
  have hW0 : s.WarmedH s'.vm := by rw [hvm]; exact State.WarmedH.refl s
  have hat' : ∀ w ∈ vx_atS own ic cls names, w.before args s' = true := fun w hw => vx_ot_at hW0 hvm.symm (hgood w (List.mem_cons_of_mem _ (List.mem_cons_of_mem _ hw))) (hat w hw)
  have hk' : (Cond.classLink own ik cls).before args s' = true := vx_ot_at hW0 hvm.symm (hgood _ List.mem_cons_self) hk
  have hini' : (Cond.initialized cls).before args s' = true := vx_ot_at hW0 hvm.symm (hgood _ (List.mem_cons_of_mem _ List.mem_cons_self)) hini
  have hU' : vx_Zq Bundle.tN "UNASSIGNED_STACK" Bundle.steD A s' s'.heap := by rw [hhp]; exact vx_Zq.moved hW0.alike (hU.kept hS.2.1)
  have hN' : vx_Zq Bundle.tN "SUPPRESSED_SENTINEL" Bundle.listD A s' s'.heap := by rw [hhp]; exact vx_Zq.moved hW0.alike (hN.kept hS.2.1)
  have h : ∀ w ∈ Bundle.ownAtoms own ic cls names, w.before args s' = true := vx_own hat' (vx_isRefq hU'.1) (vx_isRefq hN'.1) hU'.2.word hN'.2.word
  have hown' : s'.vm.findClass own = some m.cls := by rw [hvm]; exact hown
  have hins : (Cond.instantiable cls 6).before args s' = true := h _ (by simp [Bundle.ownAtoms])
  obtain ⟨vm₁, cX, kX, hfX, hkX, -, -, X₁, st1⟩ := Y.newCold hexec (own := own) (C := cls) (index := ik) (n := 6) hown' hk' hins hini'
    (g := F0 m pc ls rest) rfl (by rw [hb]; exact d0) (Nat.le_refl _) (Nat.le_refl _)
  generalize hT1 : (T.setVm vm₁).pushCell { cls := cX, slots := kX.instanceTypes.map defaultValue, vm := .none } = T1 at X₁ st1
  have hcat : (Value.ref T.heap.size).category = 1 := rfl
  have hcellA : T1.heap[T.heap.size]? = some (freshCell cX kX) := by rw [← hT1]; exact State.heap_pushCell_size _ _
  have d3' : decode c.code (pc + 3) = .ok (.dup, 1) := by rw [hb]; exact d3
  have d4' : decode c.code (pc + 4) = .ok (.ldc is, 2) := by rw [hb]; exact d4
  have hstr' : vk_R own is text sa s' := vk_R.warm hW0 hstr
  obtain ⟨U, hsteps, hrun, hend, hW, hsame, ce, hce, hO⟩ := X₁.ctorThrowS hexec htr (own := own) (cls := cls) (names := names) (ic := ic) hown' hcls hnames h (fun x hx => nomatch hx) hfX hkX hcellA (by rw [hhp, hT]; exact Nat.le_refl _) (msg := .ref sa) rfl
    (g := { method := m, pc := pc + 6, locals := ls, stack := .ref sa :: .ref T.heap.size :: .ref T.heap.size :: rest, locked := none }) rfl hsize rfl rfl (rest := rest) rfl
    (by rw [hb]; exact d6) (by rw [hb]; exact d9) hout hRframes (by simp only [List.map_cons, List.sum_cons, hcat]; omega) hlocks
  obtain ⟨f1, f2⟩ := vx_frame hsame
  rw [hhp] at f1 f2
  have hWs : s.WarmedH U.vm := State.WarmedH.trans hW0 hW
  have hcl : s.vm.findClass cls = some ce.cls := by
    have h9 := hO.cls
    rw [hvm] at h9
    exact h9
  have hall : s.sameButNew ({ U with vm := s.vm } : State) locs mc ms := by
    subst hA
    obtain ⟨e1, e2⟩ := hsame
    rw [State.setFrames_setFrames] at e1
    have h2 : (T.setVm s.vm).sameButNew ({ U with vm := s.vm } : State) [] (0 + 1) (0 + 6) := ⟨e1, e2⟩
    have h3 := X.same.trans h2
    rw [List.append_nil] at h3
    exact h3.mono hc hs
  refine ⟨U, ?_, .threw T.heap.size, hrun, hend, Or.inr ⟨T.heap.size, rfl, cls, ce, locs, hx U hWs.alike f1 (fun q hq => f2 q hq (fun z hz => nomatch hz)), hce, hO.vm, hcl, hWs, hall, hf⟩⟩
  refine st1 _ ?_
  show Steps p.tables e below (T1.setTop { method := m, pc := pc + 3, locals := ls, stack := .ref T.heap.size :: rest, locked := none }) _
  jvm_step X₁.here [X₁.here.top, hexec, d3', Value.category]
  exact X₁.ldcString hexec (own := own) (text := text) (index := is) (a := sa) hown' hstr'.1 hstr'.2
    (g := { method := m, pc := pc + 4, locals := ls, stack := .ref T.heap.size :: .ref T.heap.size :: rest, locked := none }) rfl d4' _ hsteps
/-- 'throw new E("text")', the text by a wide index -/
theorem vx_throwSW {cc : ByteArray} {pc : Nat} (hexec : p.tables.exec = Jvm.exec) (hb : c.code = cc) (hl : l.stackTraces = false) {own cls text : String} {names : List String} {ik is ic mc ms sa : Nat} {A : Nat → Prop}
    (hown : s.vm.findClass own = some m.cls) (hcls : Bundle.fit cls = true) (hnames : ∀ n ∈ names, Bundle.fit n = true)
    (hk : (Cond.classLink own ik cls).before args s = true) (hini : (Cond.initialized cls).before args s = true) (hstr : vk_R own is text sa s) (hat : ∀ w ∈ vx_atS own ic cls names, w.before args s = true)
    (hgood : ∀ w ∈ Cond.classLink own ik cls :: Cond.initialized cls :: vx_atS own ic cls names, vx_ot w = true)
    (hU : vx_Zq Bundle.tN "UNASSIGNED_STACK" Bundle.steD A s s.heap) (hN : vx_Zq Bundle.tN "SUPPRESSED_SENTINEL" Bundle.listD A s s.heap) (hS : va_S A s.heap H locs) (hsize : ls.size = c.maxLocals)
    (d0 : decode cc pc = .ok (.new ik, 3)) (d3 : decode cc (pc + 3) = .ok (.dup, 1)) (d4 : decode cc (pc + 4) = .ok (.ldc_w is, 3)) (d7 : decode cc (pc + 7) = .ok (.invokespecial ic, 3)) (d10 : decode cc (pc + 10) = .ok (.athrow, 1))
    (hout : ∀ x ∈ c.exceptionTable.toList, covers x (pc + 10) = false)
    (hRframes : names.length + 3 < R.frames) (hRlocals : (rest.map fun v => v.category).sum + (13 * (names.length + 1) + 43) ≤ R.locals) (hRcells : cells + 1 ≤ R.cells) (hRslots : slots + 6 ≤ R.slots) (hlocks : meth.locks = false)
    (hx : ∀ t : State, s.vm.Alike t.vm → H.size ≤ t.heap.size → (∀ q : Nat, q < H.size → t.heap[q]? = H[q]?) → XC cls s t)
    (hf : ∀ z ∈ locs, free z.base) (hc : cells + 1 ≤ mc) (hs : slots + 6 ≤ ms) :
    W p l e R s m args below meth c H locs cells slots (vx_MQ below Qc XC args s mc ms free) (F0 m pc ls rest) := by
  intro T hT X
  have htr : e.platform.stackTraces = false := (show e.platform.stackTraces = l.stackTraces by rw [X.admits.platform]).trans hl
  have Y := vx_rebase X (R' := { frames := R.frames, locals := R.locals, cells := 1, slots := 6 }) (Nat.le_refl _) (Nat.le_refl _) hRcells hRslots
  obtain ⟨s', hA⟩ : ∃ z, z = (T.setVm s.vm).setFrames (.invoking m args :: below) := ⟨_, rfl⟩
  rw [← hA] at Y
  have hvm : s'.vm = s.vm := by rw [hA]; rfl
  have hhp : s'.heap = H := by rw [hA]; exact hT
  have hW0 : s.WarmedH s'.vm := by rw [hvm]; exact State.WarmedH.refl s
  have hat' : ∀ w ∈ vx_atS own ic cls names, w.before args s' = true := fun w hw => vx_ot_at hW0 hvm.symm (hgood w (List.mem_cons_of_mem _ (List.mem_cons_of_mem _ hw))) (hat w hw)
  have hk' : (Cond.classLink own ik cls).before args s' = true := vx_ot_at hW0 hvm.symm (hgood _ List.mem_cons_self) hk
  have hini' : (Cond.initialized cls).before args s' = true := vx_ot_at hW0 hvm.symm (hgood _ (List.mem_cons_of_mem _ List.mem_cons_self)) hini
  have hU' : vx_Zq Bundle.tN "UNASSIGNED_STACK" Bundle.steD A s' s'.heap := by rw [hhp]; exact vx_Zq.moved hW0.alike (hU.kept hS.2.1)
  have hN' : vx_Zq Bundle.tN "SUPPRESSED_SENTINEL" Bundle.listD A s' s'.heap := by rw [hhp]; exact vx_Zq.moved hW0.alike (hN.kept hS.2.1)
  have h : ∀ w ∈ Bundle.ownAtoms own ic cls names, w.before args s' = true := vx_own hat' (vx_isRefq hU'.1) (vx_isRefq hN'.1) hU'.2.word hN'.2.word
  have hown' : s'.vm.findClass own = some m.cls := by rw [hvm]; exact hown
  have hins : (Cond.instantiable cls 6).before args s' = true := h _ (by simp [Bundle.ownAtoms])
  obtain ⟨vm₁, cX, kX, hfX, hkX, -, -, X₁, st1⟩ := Y.newCold hexec (own := own) (C := cls) (index := ik) (n := 6) hown' hk' hins hini'
    (g := F0 m pc ls rest) rfl (by rw [hb]; exact d0) (Nat.le_refl _) (Nat.le_refl _)
  generalize hT1 : (T.setVm vm₁).pushCell { cls := cX, slots := kX.instanceTypes.map defaultValue, vm := .none } = T1 at X₁ st1
  have hcat : (Value.ref T.heap.size).category = 1 := rfl
  have hcellA : T1.heap[T.heap.size]? = some (freshCell cX kX) := by rw [← hT1]; exact State.heap_pushCell_size _ _
  have d3' : decode c.code (pc + 3) = .ok (.dup, 1) := by rw [hb]; exact d3
  have d4' : decode c.code (pc + 4) = .ok (.ldc_w is, 3) := by rw [hb]; exact d4
  have hstr' : vk_R own is text sa s' := vk_R.warm hW0 hstr
  obtain ⟨U, hsteps, hrun, hend, hW, hsame, ce, hce, hO⟩ := X₁.ctorThrowS hexec htr (own := own) (cls := cls) (names := names) (ic := ic) hown' hcls hnames h (fun x hx => nomatch hx) hfX hkX hcellA (by rw [hhp, hT]; exact Nat.le_refl _) (msg := .ref sa) rfl
    (g := { method := m, pc := pc + 7, locals := ls, stack := .ref sa :: .ref T.heap.size :: .ref T.heap.size :: rest, locked := none }) rfl hsize rfl rfl (rest := rest) rfl
    (by rw [hb]; exact d7) (by rw [hb]; exact d10) hout hRframes (by simp only [List.map_cons, List.sum_cons, hcat]; omega) hlocks
  obtain ⟨f1, f2⟩ := vx_frame hsame
  rw [hhp] at f1 f2
  have hWs : s.WarmedH U.vm := State.WarmedH.trans hW0 hW
  have hcl : s.vm.findClass cls = some ce.cls := by
    have h9 := hO.cls
    rw [hvm] at h9
    exact h9
  have hall : s.sameButNew ({ U with vm := s.vm } : State) locs mc ms := by
    subst hA
    obtain ⟨e1, e2⟩ := hsame
    rw [State.setFrames_setFrames] at e1
    have h2 : (T.setVm s.vm).sameButNew ({ U with vm := s.vm } : State) [] (0 + 1) (0 + 6) := ⟨e1, e2⟩
    have h3 := X.same.trans h2
    rw [List.append_nil] at h3
    exact h3.mono hc hs
  refine ⟨U, ?_, .threw T.heap.size, hrun, hend, Or.inr ⟨T.heap.size, rfl, cls, ce, locs, hx U hWs.alike f1 (fun q hq => f2 q hq (fun z hz => nomatch hz)), hce, hO.vm, hcl, hWs, hall, hf⟩⟩
  refine st1 _ ?_
  show Steps p.tables e below (T1.setTop { method := m, pc := pc + 3, locals := ls, stack := .ref T.heap.size :: rest, locked := none }) _
  jvm_step X₁.here [X₁.here.top, hexec, d3', Value.category]
  exact X₁.ldcStringW hexec (own := own) (text := text) (index := is) (a := sa) hown' hstr'.1 hstr'.2
    (g := { method := m, pc := pc + 4, locals := ls, stack := .ref T.heap.size :: .ref T.heap.size :: rest, locked := none }) rfl d4' _ hsteps
end Ends
section Bodies
variable {l : Launch}
theorem vx_ofW {y : MethodName} {ws ws' : List Cond} {rm : Room} {Pc : Array Value → State → Prop} {Qc : Array Value → State → Outcome → State → Prop} {XC : String → State → State → Prop} {mc ms : Nat} {free : Addr → Prop} {cc : ByteArray} {maxL : Nat} {ret : Option FieldType}
    (hy : plainName y.cls = true) (hw : ws = Cond.code y cc maxL ret :: ws')
    (body : ∀ p e s m args below meth c s₁, BodyLoose p l y (headSpec ws rm) cc maxL ret e s m args below meth c s₁ → c.maxLocals = maxL → (∀ x ∈ c.exceptionTable.toList, False) → Pc args s →
      W p l e (headSpec ws rm).room s m args below meth c s.heap [] 0 0 (vx_MQ below Qc XC args s mc ms free) (entryFrame m args maxL)) : vx_Met l y ws rm Pc Qc XC mc ms free := by
  refine MetFree.of_bodyS (code := cc) (maxLocals := maxL) (ret := ret) hy ?_ ?_
  · intro args s m h hn
    obtain ⟨meth, c, h1, h2, h3, h4, h5, h6, -, -⟩ := Cond.code_spec hn (atoms_spec (ws := ws) h _ (by rw [hw]; exact List.mem_cons_self))
    exact ⟨meth, c, h1, h2, h3, h4, h5, h6⟩
  · intro p e s m args below meth c s₁ B hml hP _
    have hh0 : s₁.heap = s.heap := by rw [B.state]; rfl
    have ht : ∀ x ∈ c.exceptionTable.toList, False := by
      obtain ⟨meth9, c9, h1, h2, -, -, -, -, h7, -⟩ := Cond.code_spec B.named (atoms_spec (ws := ws) B.pre _ (by rw [hw]; exact List.mem_cons_self))
      cases Option.some.inj (h1.symm.trans B.method)
      cases Option.some.inj (h2.symm.trans (Stand.of_body B).code)
      intro x hx
      rw [Array.isEmpty_iff.mp h7] at hx
      cases hx
    obtain ⟨t, a1, o, b1, b2, b3⟩ := body p e s m args below meth c s₁ B hml ht hP s₁ hh0 (Stand.of_body B)
    exact ⟨t, o, a1, b1, b2, b3⟩
/-- the table of a body with handlers -/
theorem vx_table {p : Program} {x y : MethodName} {S : Spec} {cc bytes : ByteArray} {maxL maxL' : Nat} {ret ret' : Option FieldType} {e : Env} {s s₁ : State} {m : MethodId} {args : Array Value} {below : List Frame} {meth : Method} {c : Code} {hh : List (Nat × Nat × Nat × Nat)}
    (B : BodyLoose p l y S cc maxL ret e s m args below meth c s₁) (h : (Cond.codeWith y bytes maxL' ret' hh).before args s = true) : c.exceptionTable.toList = tableOf hh := by
  obtain ⟨m9, meth9, c9, hn9, h1, h2, -, -, h6, -⟩ := Cond.codeWith_spec h
  cases Option.some.inj (hn9.symm.trans B.named)
  cases Option.some.inj (h1.symm.trans B.method)
  cases Option.some.inj (h2.symm.trans (Stand.of_body B).code)
  rw [← h6, table_eq]
end Bodies
end VXA
/-! ===== END ===== -/
/-! ===== BEGIN a static call of a method with an exception table ===== -/
section VXS
variable {p : Program} {l : Launch} {e : Env} {R : Room} {s : State} {m : MethodId} {args : Array Value} {below : List Frame} {meth : Method} {c : Code} {T : State} {H : Heap} {locs : List Loc} {cells slots : Nat}
abbrev vx_CSW (R : Room) (s : State) (args : Array Value) (own : String) (index : Nat) (y : MethodName) (bytes : ByteArray) (maxL : Nat) (ret : Option FieldType) (hh : List (Nat × Nat × Nat × Nat)) (ws : List Cond) (rm : Room) (mc ms n : Nat) : Prop :=
  (rm.cells = mc ∧ rm.slots = ms ∧ rm.frames + 1 ≤ R.frames ∧ 8 + (maxL + 11) + rm.locals ≤ R.locals ∧ (∀ w ∈ ws, ∀ (a' : Array Value) (U : State), s.WarmedH U.vm → w.before a' U = true) ∧ Cond.codeWith y bytes maxL ret hh ∈ ws) ∧
  (Cond.codeWith y bytes maxL ret hh).before args s = true ∧ (Cond.initialized y.cls).before args s = true ∧ (y.cls ≠ "java/lang/invoke/MethodHandle" ∧ y.cls ≠ "java/lang/invoke/VarHandle") ∧
  (∀ sig, parseMethodDescriptor y.desc = some sig → n = sig.parameters.length) ∧ (Cond.methodLink own index y).before args s = true ∧ (Cond.static y).before args s = true
theorem vx_cwSW {own : String} {index maxL mc ms : Nat} {y : MethodName} {bytes : ByteArray} {ret : Option FieldType} {hh : List (Nat × Nat × Nat × Nat)} {Ts ws ws' : List Cond} {rm : Room} (n : Nat) (ht : ∀ w ∈ Ts, w.before args s = true) (hT : GoodIn Ts (va_wsS own index y ws)) (hw : ws = Cond.codeWith y bytes maxL ret hh :: ws') (hrc : rm.cells = mc) (hrs : rm.slots = ms)
    (hd : y.cls ≠ "java/lang/invoke/MethodHandle" ∧ y.cls ≠ "java/lang/invoke/VarHandle" ∧ (parseMethodDescriptor y.desc).map (fun d => d.parameters.length) = some n) (hR : rm.frames + 1 ≤ R.frames ∧ 8 + (maxL + 11) + rm.locals ≤ R.locals) :
    vx_CSW R s args own index y bytes maxL ret hh ws rm mc ms n := by
  have ok : ∀ w ∈ va_wsS own index y ws, w.before args s = true := fun w h => ht w (hT w h).1
  have hG : GoodIn Ts ws := fun w h => hT w (by unfold va_wsS; exact List.mem_append_right _ h)
  have hc : Cond.codeWith y bytes maxL ret hh ∈ ws := by rw [hw]; exact List.mem_cons_self
  refine ⟨⟨hrc, hrs, hR.1, hR.2, pay_in ht hG, hc⟩, ht _ (hG _ hc).1, ok _ (by simp [va_wsS]), ⟨hd.1, hd.2.1⟩, fun sig h => ?_, ok _ (by simp [va_wsS]), ok _ (by simp [va_wsS])⟩
  have h2 := hd.2.2
  rw [h] at h2
  exact (Option.some.inj h2).symm
theorem vx_callSW (X : Stand p l e R s m args below meth c T locs cells slots) (hexec : p.tables.exec = Jvm.exec) {own : String} {index : Nat} {y : MethodName} {bytes : ByteArray} {maxL : Nat} {ret : Option FieldType} {hh : List (Nat × Nat × Nat × Nat)}
    (hown : s.vm.findClass own = some m.cls) (hlink : (Cond.methodLink own index y).before args s = true) (hstat : (Cond.static y).before args s = true) (hinit : (Cond.initialized y.cls).before args s = true)
    (hcode : (Cond.codeWith y bytes maxL ret hh).before args s = true) (hy : y.cls ≠ "java/lang/invoke/MethodHandle" ∧ y.cls ≠ "java/lang/invoke/VarHandle")
    {W9 : Nat} {Pre : Pt → Array Value → Prop} {Post : Pt → Array Value → Option Value → Pt → Prop} (hK : Back l R p e below s args y 3 W9 Pre Post)
    {g : JFrame} (hg : g.method = m) (hsize : g.locals.size = c.maxLocals) {argsL rest : List Value} (hlen : ∀ sig, parseMethodDescriptor y.desc = some sig → argsL.length = sig.parameters.length)
    (hstack : g.stack = argsL.reverse ++ rest) (hW : 2 * g.monitorRoom + (rest.map fun v => v.category).sum ≤ W9) (hdg : decode c.code g.pc = .ok (.invokestatic index, 3))
    (hpre : ∀ vm₁, s.WarmedH vm₁ → Pre ⟨T.setVm vm₁, locs, cells, slots⟩ argsL.toArray) :
    ∃ (v : Option Value) (vm₁ : Vm) (B : Pt), s.WarmedH vm₁ ∧ Stand p l e R s m args below meth c B.U B.locs B.cells B.slots ∧ Post ⟨T.setVm vm₁, locs, cells, slots⟩ argsL.toArray v B ∧
      ∀ target, Steps p.tables e below (B.U.setTop { g with pc := g.pc + 3, stack := v.toList ++ rest }) target → Steps p.tables e below (T.setTop g) target := by
  obtain ⟨mk, methM, cM, hnamed, hmethM, -, -, -, -, -, -, hsigM⟩ := Cond.codeWith_spec hcode
  have hstatic : methM.isStatic = true := Cond.static_spec hnamed hmethM hstat
  obtain ⟨kP, hkP, -⟩ := className_of_methodNamed hnamed
  have hinitP : kP.init = .initialized := Cond.initialized_spec (findClass_of_methodNamed hnamed) hkP hinit
  obtain ⟨vm₁, X₁, hstep₁⟩ := X.invokestatic hexec hown hlink hnamed hmethM hstatic hkP hinitP hy (g := g) hg (argsL := argsL) (rest := rest) (hlen _ hsigM) hstack hdg
  obtain ⟨v, B, X', hpost, hsteps⟩ := hK m meth c ⟨T.setVm vm₁, locs, cells, slots⟩ { g with stack := rest } (.invokestatic index) mk argsL.toArray X₁ hg hsize hdg hW (X₁.named hnamed) (hpre vm₁ X₁.warmed)
  exact ⟨v, vm₁, B, X₁.warmed, X', hpost, fun target h => hstep₁ _ fun acts => by rw [doInvoke_state]; exact hsteps.trans h⟩
theorem vx_runSW {y : MethodName} {bytes cc : ByteArray} {maxL nL mc ms n index : Nat} {ret : Option FieldType} {hh : List (Nat × Nat × Nat × Nat)} {ws : List Cond} {rm : Room} {Pc : Array Value → State → Prop} {Qc : Array Value → State → Outcome → State → Prop} {free : Addr → Prop} {Ts : List Cond} {own : String} {As rest : List Value} {g : JFrame}
    (S : CallFix p m c cc nL s args Ts own) (hM : Met l y ws rm Pc Qc mc ms free) (cw : vx_CSW R s args own index y bytes maxL ret hh ws rm mc ms n) (hp : PreS s H Pc As)
    (hg : g.method = m) (hn : As.length = n) (hsize : g.locals.size = nL) (hstack : g.stack = As.reverse ++ rest) (hW : 2 * g.monitorRoom + (rest.map fun v => v.category).sum ≤ 8) (hdg : decode cc g.pc = .ok (.invokestatic index, 3)) (hf : cells + mc ≤ R.cells ∧ slots + ms ≤ R.slots) :
    va_Run p l e R s m args below meth c H locs cells slots mc ms g rest (Qc As.toArray) (free) := by
  obtain ⟨⟨hrc, hrs, hfr, hlo, hws, hcw⟩, hcode, hini, hy, hlen, hl, hstt⟩ := cw
  have hK : Back l R p e below s args y 3 8 (PreOf R mc ms Pc) (PostOf Qc mc ms free) := va_backW (hh := hh) (bytes := bytes) (maxL := maxL) (ret := ret) hM hp.1 hrc hrs hfr hlo hws hcw (fun a' U hW => word_at hW (Or.inl (by first | rfl | simp [Cond.onTables, Cond.keeps, Cond.steady])) hini)
  obtain ⟨hx, hb, hml, ho, -⟩ := S
  intro T hT X
  obtain ⟨v, vm₁, ⟨U', l2, c2, s2⟩, hW₁, X', ⟨g', mk, t, L, e1, e2, hq, h1, hL, h2, h3⟩, st⟩ := vx_callSW X hx (hh := hh) (bytes := bytes) (maxL := maxL) (ret := ret) ho hl hstt hini hcode hy hK hg (hsize.trans hml.symm) (argsL := As) (rest := rest) (fun sig h => hn.trans (hlen sig h)) hstack hW (by rw [hb]; exact hdg)
    (fun vm₁ hW₁ => ⟨hf.1, hf.2, hp.2 (T.setVm vm₁) hT hW₁⟩)
  dsimp only [Pt.U, Pt.locs, Pt.cells, Pt.slots] at X' e1 e2 h1 h2 h3 st
  subst h1; subst h2; subst h3
  exact ⟨v, (T.setVm vm₁).calling g' mk As.toArray, t, U', L, hT, X', hL, e1, e2, hq, st⟩
/-- not caught here, past rows that name other classes: it goes on to the caller -/
theorem vx_outP {p : Program} {l : Launch} {e : Env} {R : Room} {s : State} {m : MethodId} {args : Array Value} {below : List Frame} {meth : Method} {c : Code} {H : Heap} {locs : List Loc} {cells slots : Nat} {free : Addr → Prop} {ls : Array Slot} {rest : List Value} {Qc : Array Value → State → Outcome → State → Prop} {XC : String → State → State → Prop}
    {pc : Nat} {own E : String} {ce : Cell} {q : Addr} {mc ms : Nat} (hown : s.vm.findClass own = some m.cls) (hlocks : meth.locks = false)
    (hpass : ∀ z ∈ c.exceptionTable.toList, covers z pc = false ∨ (z.catchType ≠ 0 ∧ ∃ nm : String, (Cond.classLink own z.catchType nm).before args s = true ∧ va_Nc E nm s)) (hcell : H[q]? = some ce) (hv : ce.vm = .none) (hcl : s.vm.findClass E = some ce.cls)
    (hx : ∀ t : State, t.heap = H → s.vm.Alike t.vm → XC E s t) (hf : ∀ z ∈ locs, free z.base) (hc : cells ≤ mc) (hs : slots ≤ ms) :
    vx_W p l e R s m args below meth c H locs cells slots (vx_MQ below Qc XC args s mc ms free) (F0 m pc ls rest) q := by
  intro T hT X
  have hpl : e.platform.magicAccessors = ({} : Platform).magicAccessors := by rw [X.admits.platform]
  obtain ⟨vm', hW', X', st⟩ := X.outThrough hlocks q (g := F0 m pc ls rest) rfl rfl rfl (cell := ce) (by rw [hT]; exact hcell) (by rw [hv]; rfl)
    (by obtain ⟨k9, h9, -⟩ := Vm.findClass_spec hcl; exact ⟨k9, h9⟩) (fun z hz => by
      rcases hpass z hz with h | ⟨hz0, nm, hl1, hn1⟩
      · exact Or.inl h
      · obtain ⟨c6, hc6, hcl6⟩ := Cond.classLink_spec hown hl1 e.platform hpl
        obtain ⟨a8, b8, h1, h2, h3⟩ := hn1
        cases Option.some.inj (h1.symm.trans hcl)
        cases Option.some.inj (h2.symm.trans hc6)
        exact Or.inr ⟨hz0, _, hcl6, h3⟩)
  obtain ⟨g₀, hfr⟩ := X'.frames_eq
  have hcell9 : ((T.setVm vm').setFrames (.throwing q :: below)).heap[q]? = some ce := by
    show T.heap[q]? = some ce
    rw [hT]; exact hcell
  have hend : Ended ((T.setVm vm').setFrames (.throwing q :: below)) below (.threw q) := State.frames_setFrames _ (State.cur_lt_of_frames hfr)
  refine ⟨(T.setVm vm').setFrames (.throwing q :: below), ?_, .threw q, X'.here.running, hend, Or.inr ⟨q, rfl, E, ce, locs, hx _ hT (X'.ends _).1.alike, hcell9, hv, hcl, (X'.ends _).1, (X'.ends _).2.mono hc hs, hf⟩⟩
  rw [X.pushThrowing_eq]
  exact st
/-- a thing of a world lies in the heap -/
theorem vx_lt {D : va_G} {cl : List vw_C} {ws : va_W} {H1 : Heap} (h : va_P D cl ws H1) {k : Nat} {q : Nat × va_E} (hk : ws[k]? = some q) : q.1 < H1.size := (h k q hk).lt
end VXS
/-! ===== END ===== -/
/-! ===== BEGIN methods with a table of their own: called by a name, returning or throwing ===== -/
section VXH
/-! vx_backW, vx_callVX, vx_callSX, vx_callVW, vx_runVW, vx_runVX, vx_runSX, vx_ofWH follow the same proofs as their sisters above (Free/Laws.lean, Shelf42/LK1.lean); vx_outP calls Shelf42/NT130.lean (outThrough). -/
section
variable {l : Launch} {R : Room} {p : Program} {e : Env} {below : List Frame} {s : State} {sargs : Array Value} {y : MethodName} {len W9 : Nat}
theorem vx_backW {ws : List Cond} {rm : Room} {Pc : Array Value → State → Prop} {Qc : Array Value → State → Outcome → State → Prop} {XC : String → State → State → Prop} {mc ms : Nat} {free : Addr → Prop} {bytes : ByteArray} {maxL : Nat} {ret : Option FieldType} {hh : List (Nat × Nat × Nat × Nat)}
    (hM : vx_Met l y ws rm Pc Qc XC mc ms free) (hblind : FrameBlind Pc) (hrc : rm.cells = mc) (hrs : rm.slots = ms)
    (hframes : rm.frames + 1 ≤ R.frames) (hlocals : W9 + (maxL + 11) + rm.locals ≤ R.locals)
    (hws : ∀ w ∈ ws, ∀ a' U, s.WarmedH U.vm → w.before a' U = true) (hcode : Cond.codeWith y bytes maxL ret hh ∈ ws) (hinit : ∀ a' U, s.WarmedH U.vm → (Cond.initialized y.cls).before a' U = true) :
    vx_Back l R p e below s sargs y len W9 (PreOf R mc ms Pc) (PostOf Qc mc ms free) (vx_Post XC mc ms free) := by
  intro m meth c A g ig mk a X hg hsize hdg hW hn hp
  have h1 : (headSpec ws rm).pre.before a A.U = true := atoms_intro fun w hw => hws w hw _ _ X.warmed
  have h2 : (Cond.codeWith y bytes maxL ret hh).before a A.U = true := hws _ hcode _ _ X.warmed
  have h3 : (Cond.initialized y.cls).before a A.U = true := hinit _ _ X.warmed
  have h4 : A.cells + (headSpec ws rm).room.cells ≤ R.cells := by rw [show (headSpec ws rm).room.cells = mc from hrc]; exact hp.1
  have h5 : A.slots + (headSpec ws rm).room.slots ≤ R.slots := by rw [show (headSpec ws rm).room.slots = ms from hrs]; exact hp.2.1
  have hPc : Pc a (A.U.calling g mk a) := hblind _ _ _ _ hp.2.2
  obtain ⟨U, Ls, c0, s0⟩ := A
  dsimp only [Pt.U, Pt.locs, Pt.cells, Pt.slots] at h1 h2 h3 h4 h5 X hn hPc ⊢
  obtain ⟨m9, methY, cY, hn9, hmY, hcY, -, hlY, -⟩ := Cond.codeWith_spec h2
  cases Option.some.inj (hn9.symm.trans hn)
  obtain ⟨kY, hkY, -⟩ := className_of_methodNamed hn
  have hinitY : kY.init = .initialized := Cond.initialized_spec (findClass_of_methodNamed hn) hkY h3
  have h : At U g.method c below := by rw [hg]; exact X.here
  have hlocals9 : W9 + (maxL + 11) + (headSpec ws rm).room.locals ≤ R.locals := hlocals
  have happ : (headSpec ws rm).appliesLoose y e.platform (U.calling g mk a) = true :=
    Spec.appliesLoose_calling (g := g) h hdg hn hkY hinitY
      (X.room_calling (g := g) (R' := (headSpec ws rm).room) hsize hmY hcY hframes (by rw [hlY]; omega) h4 h5) h1
  obtain ⟨mid, hmid⟩ := h.above
  have hfr : (U.setTop g).frames = (.java g :: mid) ++ below := by rw [State.frames_setTop' g h.top, hmid]; rfl
  obtain ⟨o, s₂, hsteps, -, hend, hq⟩ := Steps.callFree hM p X.admits X.cas X.clock (acts := []) hfr happ hPc trivial
  have hq' : vx_Q Qc XC mc ms free a (U.calling g mk a) o s₂ := hq
  rw [State.frames_setTop' g h.top] at hend
  obtain ⟨g₀, hg0⟩ := Option.isSome_iff_exists.mp h.top
  obtain ⟨r, hr⟩ := State.topJava?_eq_some.mp hg0
  have hr' : (({ U with heap := s₂.heap, slotsUsed := s₂.slotsUsed } : State).setVm s₂.vm).frames = .java g₀ :: r := hr
  rcases hq' with ⟨hqc, L, hfe, hL⟩ | ⟨q, rfl, E, ce, L, hx, hce, hcv, hcl, hW₂, hsm, hL⟩
  · obtain ⟨⟨v, rfl⟩, hW₂, e2, q2, q3, q4, q5, q6⟩ := id hfe
    have e3 : s₂ = ({ (U.calling g mk a).setFrames s₂.frames with heap := s₂.heap, slotsUsed := s₂.slotsUsed } : State).setVm s₂.vm := by
      have : s₂ = ({ s₂ with vm := (U.calling g mk a).vm } : State).setVm s₂.vm := rfl
      rw [e2] at this
      exact this
    obtain ⟨c₂, i₂, len₂, hc₂, hd₂, hf₂⟩ := hend
    have hW' : U.WarmedH s₂.vm := hW₂
    have hcc : c₂ = c := by
      have h1 : s₂.code? g.method = U.code? g.method := by
        rw [State.code?_eq, State.code?_eq, hW'.alike.method?]
      exact Option.some.inj (hc₂.symm.trans (h1.trans h.code))
    subst hcc
    have hlen : len₂ = len := by rw [hdg] at hd₂; cases hd₂; rfl
    subst hlen
    have hs₂ : s₂ = (({ U with heap := s₂.heap, slotsUsed := s₂.slotsUsed } : State).setVm s₂.vm).setTop { g with pc := g.pc + len₂, stack := v.toList ++ g.stack } := by
      refine e3.trans ?_
      rw [hf₂, State.calling_eq h.top, State.setFrames_setFrames, State.setTop_of_frames _ hr', hr]
      rfl
    have hsame : U.sameButNew ({ U with heap := s₂.heap, slotsUsed := s₂.slotsUsed } : State) L mc ms := by
      refine ⟨?_, q2, q3, q4, q5, q6⟩
      obtain ⟨t, ht, -⟩ := State.frames_cons hr
      show ({ U with heap := s₂.heap, slotsUsed := s₂.slotsUsed } : State) = { U.setFrames U.frames with heap := s₂.heap, slotsUsed := s₂.slotsUsed }
      rw [State.setFrames_self ht]
    subst hg
    refine Or.inl ⟨v, ⟨(({ U with heap := s₂.heap, slotsUsed := s₂.slotsUsed } : State).setVm s₂.vm), Ls ++ L, c0 + mc, s0 + ms⟩,
      ⟨X.admits, X.cas, X.clock, X.frames, X.room, X.hears, X.method, X.code, (X.here.setHeapUsed s₂.heap s₂.slotsUsed).setVm hW'.alike, X.tail, State.WarmedH.trans X.warmed hW', X.limits, X.bytes, X.same.trans (hsame.setVm s.vm)⟩,
      ⟨g, mk, s₂, L, rfl, rfl, hqc, rfl, hL, rfl, rfl⟩, ?_⟩
    show Steps p.tables e below _ ((({ U with heap := s₂.heap, slotsUsed := s₂.slotsUsed } : State).setVm s₂.vm).setTop { g with pc := g.pc + len₂, stack := v.toList ++ g.stack })
    rw [← hs₂]
    exact hsteps
  · obtain ⟨e2, q2, q3, q4, q5, q6⟩ := id hsm
    have e3 : s₂ = ({ (U.calling g mk a).setFrames s₂.frames with heap := s₂.heap, slotsUsed := s₂.slotsUsed } : State).setVm s₂.vm := by
      have : s₂ = ({ s₂ with vm := (U.calling g mk a).vm } : State).setVm s₂.vm := rfl
      rw [e2] at this
      exact this
    have hf₂ : s₂.frames = .throwing q :: .java g :: U.frames.tail := hend
    have hW' : U.WarmedH s₂.vm := hW₂
    have hs₂ : s₂ = ((({ U with heap := s₂.heap, slotsUsed := s₂.slotsUsed } : State).setVm s₂.vm).setTop g).pushFrame (.throwing q) := by
      refine e3.trans ?_
      rw [hf₂, State.calling_eq h.top, State.setFrames_setFrames, State.pushFrame, State.frames_setTop _ hr', State.setTop_of_frames _ hr', State.setFrames_setFrames, hr]
      rfl
    have hsame : U.sameButNew ({ U with heap := s₂.heap, slotsUsed := s₂.slotsUsed } : State) L mc ms := by
      refine ⟨?_, q2, q3, q4, q5, q6⟩
      obtain ⟨t, ht, -⟩ := State.frames_cons hr
      show ({ U with heap := s₂.heap, slotsUsed := s₂.slotsUsed } : State) = { U.setFrames U.frames with heap := s₂.heap, slotsUsed := s₂.slotsUsed }
      rw [State.setFrames_self ht]
    subst hg
    refine Or.inr ⟨q, ⟨(({ U with heap := s₂.heap, slotsUsed := s₂.slotsUsed } : State).setVm s₂.vm), Ls ++ L, c0 + mc, s0 + ms⟩,
      ⟨X.admits, X.cas, X.clock, X.frames, X.room, X.hears, X.method, X.code, (X.here.setHeapUsed s₂.heap s₂.slotsUsed).setVm hW'.alike, X.tail, State.WarmedH.trans X.warmed hW', X.limits, X.bytes, X.same.trans (hsame.setVm s.vm)⟩,
      ⟨g, mk, s₂, L, E, ce, rfl, rfl, hx, hce, hcv, hcl, rfl, hL, rfl, rfl⟩, ?_⟩
    show Steps p.tables e below _ (((({ U with heap := s₂.heap, slotsUsed := s₂.slotsUsed } : State).setVm s₂.vm).setTop g).pushFrame (.throwing q))
    rw [← hs₂]
    exact hsteps
end
variable {p : Program} {l : Launch} {e : Env} {R : Room} {s : State} {m : MethodId} {args : Array Value} {below : List Frame} {meth : Method} {c : Code} {T : State} {H : Heap} {locs : List Loc} {cells slots : Nat}
theorem vx_callVX (X : Stand p l e R s m args below meth c T locs cells slots) (hexec : p.tables.exec = Jvm.exec) {own C : String} {index : Nat} {y : MethodName} {bytes : ByteArray} {maxL : Nat} {ret : Option FieldType} {hh : List (Nat × Nat × Nat × Nat)}
    (hown : s.vm.findClass own = some m.cls) (hlink : (Cond.methodLink own index y).before args s = true) (hinst : (Cond.instanceMethod y).before args s = true) (hsel : (Cond.selects C y y).before args s = true)
    (hcode : (Cond.codeWith y bytes maxL ret hh).before args s = true) (hy : y.cls ≠ "java/lang/invoke/MethodHandle" ∧ y.cls ≠ "java/lang/invoke/VarHandle")
    {W9 : Nat} {Pre : Pt → Array Value → Prop} {Post : Pt → Array Value → Option Value → Pt → Prop} {PostX : Pt → Array Value → Addr → Pt → Prop} (hK : vx_Back l R p e below s args y 3 W9 Pre Post PostX)
    {b : Addr} {cellB : Cell} (hcell : T.heap[b]? = some cellB) (hobj : cellB.vm.isStatics = false) (hcls : s.vm.findClass C = some cellB.cls)
    {g : JFrame} (hg : g.method = m) (hsize : g.locals.size = c.maxLocals) {argsL rest : List Value} (hlen : ∀ sig, parseMethodDescriptor y.desc = some sig → argsL.length = sig.parameters.length)
    (hstack : g.stack = argsL.reverse ++ .ref b :: rest) (hW : 2 * g.monitorRoom + (rest.map fun v => v.category).sum ≤ W9) (hdg : decode c.code g.pc = .ok (.invokevirtual index, 3))
    (hpre : ∀ vm₁, s.WarmedH vm₁ → Pre ⟨T.setVm vm₁, locs, cells, slots⟩ (Value.ref b :: argsL).toArray) :
    (∃ (v : Option Value) (vm₁ : Vm) (B : Pt), s.WarmedH vm₁ ∧ Stand p l e R s m args below meth c B.U B.locs B.cells B.slots ∧ Post ⟨T.setVm vm₁, locs, cells, slots⟩ (Value.ref b :: argsL).toArray v B ∧
      ∀ target, Steps p.tables e below (B.U.setTop { g with pc := g.pc + 3, stack := v.toList ++ rest }) target → Steps p.tables e below (T.setTop g) target) ∨
    (∃ (q : Addr) (vm₁ : Vm) (B : Pt), s.WarmedH vm₁ ∧ Stand p l e R s m args below meth c B.U B.locs B.cells B.slots ∧ PostX ⟨T.setVm vm₁, locs, cells, slots⟩ (Value.ref b :: argsL).toArray q B ∧
      Steps p.tables e below (T.setTop g) ((B.U.setTop { g with stack := rest }).pushFrame (.throwing q))) := by
  obtain ⟨mk, methM, hnamed, hmethM, hstM, habM⟩ := Cond.instanceMethod_spec hinst
  obtain ⟨m8, methM', cM, hn8, hmethM', -, -, -, -, -, -, hsigM⟩ := Cond.codeWith_spec hcode
  cases Option.some.inj (hn8.symm.trans hnamed)
  cases hmethM.symm.trans hmethM'
  obtain ⟨c2, r2, m2, q1, q2, q3, q4, kP, hkP, hkPi⟩ := Cond.selects_spec hsel
  cases hcls.symm.trans q1
  cases (State.methodFound?_of_named hnamed hy).symm.trans q2
  cases hnamed.symm.trans q3
  have hselP : selectMethod e.platform s.vm cellB.cls mk = .method mk := by rw [Launch.admits_selectMethod X.admits]; exact q4
  obtain ⟨vm₁, X₁, hstep₁⟩ := X.invokevirtual hexec hown hlink hnamed hmethM hstM hkP hkPi hy (a := b) (cell := cellB) hcell
    (fun z h => by rw [h] at hobj; cases hobj) hselP hmethM habM hkP hkPi (g := g) hg (argsL := argsL) (rest := rest) (hlen _ hsigM) hstack hdg
  rcases hK m meth c ⟨T.setVm vm₁, locs, cells, slots⟩ { g with stack := rest } (.invokevirtual index) mk (Value.ref b :: argsL).toArray X₁ hg hsize hdg hW (X₁.named hnamed) (hpre vm₁ X₁.warmed) with ⟨v, B, X', hpost, hsteps⟩ | ⟨q, B, X', hpost, hsteps⟩
  · exact Or.inl ⟨v, vm₁, B, X₁.warmed, X', hpost, fun target h => hstep₁ _ fun acts => by rw [doInvoke_state]; exact hsteps.trans h⟩
  · exact Or.inr ⟨q, vm₁, B, X₁.warmed, X', hpost, hstep₁ _ fun acts => by rw [doInvoke_state]; exact hsteps⟩
theorem vx_callSX (X : Stand p l e R s m args below meth c T locs cells slots) (hexec : p.tables.exec = Jvm.exec) {own : String} {index : Nat} {y : MethodName} {bytes : ByteArray} {maxL : Nat} {ret : Option FieldType} {hh : List (Nat × Nat × Nat × Nat)}
    (hown : s.vm.findClass own = some m.cls) (hlink : (Cond.methodLink own index y).before args s = true) (hstat : (Cond.static y).before args s = true) (hinit : (Cond.initialized y.cls).before args s = true)
    (hcode : (Cond.codeWith y bytes maxL ret hh).before args s = true) (hy : y.cls ≠ "java/lang/invoke/MethodHandle" ∧ y.cls ≠ "java/lang/invoke/VarHandle")
    {W9 : Nat} {Pre : Pt → Array Value → Prop} {Post : Pt → Array Value → Option Value → Pt → Prop} {PostX : Pt → Array Value → Addr → Pt → Prop} (hK : vx_Back l R p e below s args y 3 W9 Pre Post PostX)
    {g : JFrame} (hg : g.method = m) (hsize : g.locals.size = c.maxLocals) {argsL rest : List Value} (hlen : ∀ sig, parseMethodDescriptor y.desc = some sig → argsL.length = sig.parameters.length)
    (hstack : g.stack = argsL.reverse ++ rest) (hW : 2 * g.monitorRoom + (rest.map fun v => v.category).sum ≤ W9) (hdg : decode c.code g.pc = .ok (.invokestatic index, 3))
    (hpre : ∀ vm₁, s.WarmedH vm₁ → Pre ⟨T.setVm vm₁, locs, cells, slots⟩ argsL.toArray) :
    (∃ (v : Option Value) (vm₁ : Vm) (B : Pt), s.WarmedH vm₁ ∧ Stand p l e R s m args below meth c B.U B.locs B.cells B.slots ∧ Post ⟨T.setVm vm₁, locs, cells, slots⟩ argsL.toArray v B ∧
      ∀ target, Steps p.tables e below (B.U.setTop { g with pc := g.pc + 3, stack := v.toList ++ rest }) target → Steps p.tables e below (T.setTop g) target) ∨
    (∃ (q : Addr) (vm₁ : Vm) (B : Pt), s.WarmedH vm₁ ∧ Stand p l e R s m args below meth c B.U B.locs B.cells B.slots ∧ PostX ⟨T.setVm vm₁, locs, cells, slots⟩ argsL.toArray q B ∧
      Steps p.tables e below (T.setTop g) ((B.U.setTop { g with stack := rest }).pushFrame (.throwing q))) := by
  obtain ⟨mk, methM, cM, hnamed, hmethM, -, -, -, -, -, -, hsigM⟩ := Cond.codeWith_spec hcode
  have hstatic : methM.isStatic = true := Cond.static_spec hnamed hmethM hstat
  obtain ⟨kP, hkP, -⟩ := className_of_methodNamed hnamed
  have hinitP : kP.init = .initialized := Cond.initialized_spec (findClass_of_methodNamed hnamed) hkP hinit
  obtain ⟨vm₁, X₁, hstep₁⟩ := X.invokestatic hexec hown hlink hnamed hmethM hstatic hkP hinitP hy (g := g) hg (argsL := argsL) (rest := rest) (hlen _ hsigM) hstack hdg
  rcases hK m meth c ⟨T.setVm vm₁, locs, cells, slots⟩ { g with stack := rest } (.invokestatic index) mk argsL.toArray X₁ hg hsize hdg hW (X₁.named hnamed) (hpre vm₁ X₁.warmed) with ⟨v, B, X', hpost, hsteps⟩ | ⟨q, B, X', hpost, hsteps⟩
  · exact Or.inl ⟨v, vm₁, B, X₁.warmed, X', hpost, fun target h => hstep₁ _ fun acts => by rw [doInvoke_state]; exact hsteps.trans h⟩
  · exact Or.inr ⟨q, vm₁, B, X₁.warmed, X', hpost, hstep₁ _ fun acts => by rw [doInvoke_state]; exact hsteps⟩
theorem vx_callVW (X : Stand p l e R s m args below meth c T locs cells slots) (hexec : p.tables.exec = Jvm.exec) {own C : String} {index : Nat} {y : MethodName} {bytes : ByteArray} {maxL : Nat} {ret : Option FieldType} {hh : List (Nat × Nat × Nat × Nat)}
    (hown : s.vm.findClass own = some m.cls) (hlink : (Cond.methodLink own index y).before args s = true) (hinst : (Cond.instanceMethod y).before args s = true) (hsel : (Cond.selects C y y).before args s = true)
    (hcode : (Cond.codeWith y bytes maxL ret hh).before args s = true) (hy : y.cls ≠ "java/lang/invoke/MethodHandle" ∧ y.cls ≠ "java/lang/invoke/VarHandle")
    {W9 : Nat} {Pre : Pt → Array Value → Prop} {Post : Pt → Array Value → Option Value → Pt → Prop} (hK : Back l R p e below s args y 3 W9 Pre Post)
    {b : Addr} {cellB : Cell} (hcell : T.heap[b]? = some cellB) (hobj : cellB.vm.isStatics = false) (hcls : s.vm.findClass C = some cellB.cls)
    {g : JFrame} (hg : g.method = m) (hsize : g.locals.size = c.maxLocals) {argsL rest : List Value} (hlen : ∀ sig, parseMethodDescriptor y.desc = some sig → argsL.length = sig.parameters.length)
    (hstack : g.stack = argsL.reverse ++ .ref b :: rest) (hW : 2 * g.monitorRoom + (rest.map fun v => v.category).sum ≤ W9) (hdg : decode c.code g.pc = .ok (.invokevirtual index, 3))
    (hpre : ∀ vm₁, s.WarmedH vm₁ → Pre ⟨T.setVm vm₁, locs, cells, slots⟩ (Value.ref b :: argsL).toArray) :
    ∃ (v : Option Value) (vm₁ : Vm) (B : Pt), s.WarmedH vm₁ ∧ Stand p l e R s m args below meth c B.U B.locs B.cells B.slots ∧ Post ⟨T.setVm vm₁, locs, cells, slots⟩ (Value.ref b :: argsL).toArray v B ∧
      ∀ target, Steps p.tables e below (B.U.setTop { g with pc := g.pc + 3, stack := v.toList ++ rest }) target → Steps p.tables e below (T.setTop g) target := by
  obtain ⟨mk, methM, hnamed, hmethM, hstM, habM⟩ := Cond.instanceMethod_spec hinst
  obtain ⟨m8, methM', cM, hn8, hmethM', -, -, -, -, -, -, hsigM⟩ := Cond.codeWith_spec hcode
  cases Option.some.inj (hn8.symm.trans hnamed)
  cases hmethM.symm.trans hmethM'
  obtain ⟨c2, r2, m2, q1, q2, q3, q4, kP, hkP, hkPi⟩ := Cond.selects_spec hsel
  cases hcls.symm.trans q1
  cases (State.methodFound?_of_named hnamed hy).symm.trans q2
  cases hnamed.symm.trans q3
  have hselP : selectMethod e.platform s.vm cellB.cls mk = .method mk := by rw [Launch.admits_selectMethod X.admits]; exact q4
  obtain ⟨vm₁, X₁, hstep₁⟩ := X.invokevirtual hexec hown hlink hnamed hmethM hstM hkP hkPi hy (a := b) (cell := cellB) hcell
    (fun z h => by rw [h] at hobj; cases hobj) hselP hmethM habM hkP hkPi (g := g) hg (argsL := argsL) (rest := rest) (hlen _ hsigM) hstack hdg
  obtain ⟨v, B, X', hpost, hsteps⟩ := hK m meth c ⟨T.setVm vm₁, locs, cells, slots⟩ { g with stack := rest } (.invokevirtual index) mk (Value.ref b :: argsL).toArray X₁ hg hsize hdg hW (X₁.named hnamed) (hpre vm₁ X₁.warmed)
  exact ⟨v, vm₁, B, X₁.warmed, X', hpost, fun target h => hstep₁ _ fun acts => by rw [doInvoke_state]; exact hsteps.trans h⟩
abbrev vx_CVW (R : Room) (s : State) (args : Array Value) (own C : String) (index : Nat) (y : MethodName) (bytes : ByteArray) (maxL : Nat) (ret : Option FieldType) (hh : List (Nat × Nat × Nat × Nat)) (ws : List Cond) (rm : Room) (mc ms n : Nat) : Prop :=
  (rm.cells = mc ∧ rm.slots = ms ∧ rm.frames + 1 ≤ R.frames ∧ 8 + (maxL + 11) + rm.locals ≤ R.locals ∧ (∀ w ∈ ws, ∀ (a' : Array Value) (U : State), s.WarmedH U.vm → w.before a' U = true) ∧ Cond.codeWith y bytes maxL ret hh ∈ ws) ∧
  (Cond.codeWith y bytes maxL ret hh).before args s = true ∧ (Cond.initialized y.cls).before args s = true ∧ (y.cls ≠ "java/lang/invoke/MethodHandle" ∧ y.cls ≠ "java/lang/invoke/VarHandle") ∧
  (∀ sig, parseMethodDescriptor y.desc = some sig → n = sig.parameters.length) ∧ (Cond.methodLink own index y).before args s = true ∧ (Cond.instanceMethod y).before args s = true ∧ (Cond.selects C y y).before args s = true
theorem vx_cwVW {own C : String} {index maxL mc ms : Nat} {y : MethodName} {bytes : ByteArray} {ret : Option FieldType} {hh : List (Nat × Nat × Nat × Nat)} {Ts ws ws' : List Cond} {rm : Room} (n : Nat) (ht : ∀ w ∈ Ts, w.before args s = true) (hT : GoodIn Ts (wsV own index C y ws)) (hw : ws = Cond.codeWith y bytes maxL ret hh :: ws') (hrc : rm.cells = mc) (hrs : rm.slots = ms)
    (hd : y.cls = C ∧ y.cls ≠ "java/lang/invoke/MethodHandle" ∧ y.cls ≠ "java/lang/invoke/VarHandle" ∧ (parseMethodDescriptor y.desc).map (fun d => d.parameters.length) = some n) (hR : rm.frames + 1 ≤ R.frames ∧ 8 + (maxL + 11) + rm.locals ≤ R.locals) :
    vx_CVW R s args own C index y bytes maxL ret hh ws rm mc ms n := by
  obtain ⟨hC, hd⟩ := hd
  subst hC
  have ok : ∀ w ∈ wsV own index y.cls y ws, w.before args s = true := fun w h => ht w (hT w h).1
  have hG : GoodIn Ts ws := fun w h => hT w (by unfold wsV; exact List.mem_append_right _ h)
  have hc : Cond.codeWith y bytes maxL ret hh ∈ ws := by rw [hw]; exact List.mem_cons_self
  refine ⟨⟨hrc, hrs, hR.1, hR.2, pay_in ht hG, hc⟩, ht _ (hG _ hc).1, ok _ (by simp [wsV]), ⟨hd.1, hd.2.1⟩, fun sig h => ?_, ok _ (by simp [wsV]), ok _ (by simp [wsV]), ok _ (by simp [wsV])⟩
  have h2 := hd.2.2
  rw [h] at h2
  exact (Option.some.inj h2).symm
theorem vx_runVW {y : MethodName} {bytes cc : ByteArray} {maxL nL mc ms n index : Nat} {ret : Option FieldType} {hh : List (Nat × Nat × Nat × Nat)} {ws : List Cond} {rm : Room} {Pc : Array Value → State → Prop} {Qc : Array Value → State → Outcome → State → Prop} {free : Addr → Prop} {Ts : List Cond} {own C : String} {b : Addr} {As rest : List Value} {g : JFrame}
    (S : CallFix p m c cc nL s args Ts own) (hM : Met l y ws rm Pc Qc mc ms free) (cw : vx_CVW R s args own C index y bytes maxL ret hh ws rm mc ms n) (hp : PreV s H C b Pc As)
    (hg : g.method = m) (hn : As.length = n) (hsize : g.locals.size = nL) (hstack : g.stack = As.reverse ++ .ref b :: rest) (hW : 2 * g.monitorRoom + (rest.map fun v => v.category).sum ≤ 8) (hdg : decode cc g.pc = .ok (.invokevirtual index, 3)) (hf : cells + mc ≤ R.cells ∧ slots + ms ≤ R.slots) :
    va_Run p l e R s m args below meth c H locs cells slots mc ms g rest (Qc (Value.ref b :: As).toArray) free := by
  obtain ⟨⟨hrc, hrs, hfr, hlo, hws, hcw⟩, hcode, hini, hy, hlen, hl, hin, hse⟩ := cw
  have hK : Back l R p e below s args y 3 8 (PreOf R mc ms Pc) (PostOf Qc mc ms free) := va_backW (hh := hh) (bytes := bytes) (maxL := maxL) (ret := ret) hM hp.1 hrc hrs hfr hlo hws hcw (fun a' U hW => word_at hW (Or.inl (by first | rfl | simp [Cond.onTables, Cond.keeps, Cond.steady])) hini)
  obtain ⟨hx, hb, hml, ho, -⟩ := S
  obtain ⟨-, ⟨cellB, hcB, hoB, hclB⟩, hPc⟩ := hp
  intro T hT X
  obtain ⟨v, vm₁, ⟨U', l2, c2, s2⟩, hW₁, X', ⟨g', mk, t, L, e1, e2, hq, h1, hL, h2, h3⟩, st⟩ := vx_callVW X hx (C := C) (hh := hh) (bytes := bytes) (maxL := maxL) (ret := ret) ho hl hin hse hcode hy hK (by rw [hT]; exact hcB) hoB hclB hg (hsize.trans hml.symm) (argsL := As) (rest := rest) (fun sig h => hn.trans (hlen sig h)) hstack hW (by rw [hb]; exact hdg)
    (fun vm₁ hW₁ => ⟨hf.1, hf.2, hPc (T.setVm vm₁) hT hW₁⟩)
  dsimp only [Pt.U, Pt.locs, Pt.cells, Pt.slots] at X' e1 e2 h1 h2 h3 st
  subst h1; subst h2; subst h3
  exact ⟨v, (T.setVm vm₁).calling g' mk (Value.ref b :: As).toArray, t, U', L, hT, X', hL, e1, e2, hq, st⟩
section
variable {y : MethodName} {bytes cc : ByteArray} {maxL nL mc ms n index : Nat} {ret : Option FieldType} {ws : List Cond} {rm : Room} {Pc : Array Value → State → Prop} {Qc : Array Value → State → Outcome → State → Prop} {XC : String → State → State → Prop} {free : Addr → Prop} {Ts : List Cond} {own C : String} {b : Addr} {As rest : List Value} {g : JFrame}
theorem vx_runVX {hh : List (Nat × Nat × Nat × Nat)} (S : CallFix p m c cc nL s args Ts own) (hM : vx_Met l y ws rm Pc Qc XC mc ms free) (cw : vx_CVW R s args own C index y bytes maxL ret hh ws rm mc ms n) (hp : PreV s H C b Pc As)
    (hg : g.method = m) (hn : As.length = n) (hsize : g.locals.size = nL) (hstack : g.stack = As.reverse ++ .ref b :: rest) (hW : 2 * g.monitorRoom + (rest.map fun v => v.category).sum ≤ 8) (hdg : decode cc g.pc = .ok (.invokevirtual index, 3)) (hf : cells + mc ≤ R.cells ∧ slots + ms ≤ R.slots) :
    vx_Run p l e R s m args below meth c H locs cells slots mc ms g rest (Qc (Value.ref b :: As).toArray) XC free := by
  obtain ⟨⟨hrc, hrs, hfr, hlo, hws, hcw⟩, hcode, hini, hy, hlen, hl, hin, hse⟩ := cw
  have hK : vx_Back l R p e below s args y 3 8 (PreOf R mc ms Pc) (PostOf Qc mc ms free) (vx_Post XC mc ms free) := vx_backW (hh := hh) (bytes := bytes) (maxL := maxL) (ret := ret) hM hp.1 hrc hrs hfr hlo hws hcw (fun a' U hW => word_at hW (Or.inl (by first | rfl | simp [Cond.onTables, Cond.keeps, Cond.steady])) hini)
  obtain ⟨hx, hb, hml, ho, -⟩ := S
  obtain ⟨-, ⟨cellB, hcB, hoB, hclB⟩, hPc⟩ := hp
  intro T hT X
  rcases vx_callVX X hx (C := C) (hh := hh) (bytes := bytes) (maxL := maxL) (ret := ret) ho hl hin hse hcode hy hK (by rw [hT]; exact hcB) hoB hclB hg (hsize.trans hml.symm) (argsL := As) (rest := rest) (fun sig h => hn.trans (hlen sig h)) hstack hW (by rw [hb]; exact hdg)
    (fun vm₁ hW₁ => ⟨hf.1, hf.2, hPc (T.setVm vm₁) hT hW₁⟩) with ⟨v, vm₁, ⟨U', l2, c2, s2⟩, hW₁, X', ⟨g', mk, t, L, e1, e2, hq, h1, hL, h2, h3⟩, st⟩ | ⟨q, vm₁, ⟨U', l2, c2, s2⟩, hW₁, X', ⟨g', mk, t, L, E, ce, e1, e2, hq, hce, hcv, hcl, h1, hL, h2, h3⟩, st⟩
  · dsimp only [Pt.U, Pt.locs, Pt.cells, Pt.slots] at X' e1 e2 h1 h2 h3 st
    subst h1; subst h2; subst h3
    exact Or.inl ⟨v, (T.setVm vm₁).calling g' mk (Value.ref b :: As).toArray, t, U', L, hT, X', hL, e1, e2, hq, st⟩
  · dsimp only [Pt.U, Pt.locs, Pt.cells, Pt.slots] at X' e1 e2 h1 h2 h3 st hcl
    subst h1; subst h2; subst h3
    exact Or.inr ⟨q, (T.setVm vm₁).calling g' mk (Value.ref b :: As).toArray, t, U', L, E, ce, hT, X', hL, e1, e2, hq, hce, hcv, vx_cls hW₁ hcl, st⟩
theorem vx_runSX {hh : List (Nat × Nat × Nat × Nat)} (S : CallFix p m c cc nL s args Ts own) (hM : vx_Met l y ws rm Pc Qc XC mc ms free) (cw : vx_CSW R s args own index y bytes maxL ret hh ws rm mc ms n) (hp : PreS s H Pc As)
    (hg : g.method = m) (hn : As.length = n) (hsize : g.locals.size = nL) (hstack : g.stack = As.reverse ++ rest) (hW : 2 * g.monitorRoom + (rest.map fun v => v.category).sum ≤ 8) (hdg : decode cc g.pc = .ok (.invokestatic index, 3)) (hf : cells + mc ≤ R.cells ∧ slots + ms ≤ R.slots) :
    vx_Run p l e R s m args below meth c H locs cells slots mc ms g rest (Qc As.toArray) XC free := by
  obtain ⟨⟨hrc, hrs, hfr, hlo, hws, hcw⟩, hcode, hini, hy, hlen, hl, hstt⟩ := cw
  have hK : vx_Back l R p e below s args y 3 8 (PreOf R mc ms Pc) (PostOf Qc mc ms free) (vx_Post XC mc ms free) := vx_backW (hh := hh) (bytes := bytes) (maxL := maxL) (ret := ret) hM hp.1 hrc hrs hfr hlo hws hcw (fun a' U hW => word_at hW (Or.inl (by first | rfl | simp [Cond.onTables, Cond.keeps, Cond.steady])) hini)
  obtain ⟨hx, hb, hml, ho, -⟩ := S
  intro T hT X
  rcases vx_callSX X hx (hh := hh) (bytes := bytes) (maxL := maxL) (ret := ret) ho hl hstt hini hcode hy hK hg (hsize.trans hml.symm) (argsL := As) (rest := rest) (fun sig h => hn.trans (hlen sig h)) hstack hW (by rw [hb]; exact hdg)
    (fun vm₁ hW₁ => ⟨hf.1, hf.2, hp.2 (T.setVm vm₁) hT hW₁⟩) with ⟨v, vm₁, ⟨U', l2, c2, s2⟩, hW₁, X', ⟨g', mk, t, L, e1, e2, hq, h1, hL, h2, h3⟩, st⟩ | ⟨q, vm₁, ⟨U', l2, c2, s2⟩, hW₁, X', ⟨g', mk, t, L, E, ce, e1, e2, hq, hce, hcv, hcl, h1, hL, h2, h3⟩, st⟩
  · dsimp only [Pt.U, Pt.locs, Pt.cells, Pt.slots] at X' e1 e2 h1 h2 h3 st
    subst h1; subst h2; subst h3
    exact Or.inl ⟨v, (T.setVm vm₁).calling g' mk As.toArray, t, U', L, hT, X', hL, e1, e2, hq, st⟩
  · dsimp only [Pt.U, Pt.locs, Pt.cells, Pt.slots] at X' e1 e2 h1 h2 h3 st hcl
    subst h1; subst h2; subst h3
    exact Or.inr ⟨q, (T.setVm vm₁).calling g' mk As.toArray, t, U', L, E, ce, hT, X', hL, e1, e2, hq, hce, hcv, vx_cls hW₁ hcl, st⟩
end
end VXH
theorem vx_ofWH {l : Launch} {y : MethodName} {ws ws' : List Cond} {rm : Room} {Pc : Array Value → State → Prop} {Qc : Array Value → State → Outcome → State → Prop} {XC : String → State → State → Prop} {mc ms : Nat} {free : Addr → Prop} {cc : ByteArray} {maxL : Nat} {ret : Option FieldType} {hh : List (Nat × Nat × Nat × Nat)}
    (hy : plainName y.cls = true) (hw : ws = Cond.codeWith y cc maxL ret hh :: ws')
    (body : ∀ p e s m args below meth c s₁, BodyLoose p l y (headSpec ws rm) cc maxL ret e s m args below meth c s₁ → c.maxLocals = maxL → Pc args s →
      W p l e (headSpec ws rm).room s m args below meth c s.heap [] 0 0 (vx_MQ below Qc XC args s mc ms free) (entryFrame m args maxL)) : vx_Met l y ws rm Pc Qc XC mc ms free := by
  refine MetFree.of_bodyS (code := cc) (maxLocals := maxL) (ret := ret) hy ?_ ?_
  · intro args s m h hn
    obtain ⟨m9, meth, c, hn9, h1, h2, h3, h4, -, h5, h6, -⟩ := Cond.codeWith_spec (atoms_spec (ws := ws) h _ (by rw [hw]; exact List.mem_cons_self))
    cases hn.symm.trans hn9
    exact ⟨meth, c, h1, h2, h3, h4, h5, h6⟩
  · intro p e s m args below meth c s₁ B hml hP _
    have hh0 : s₁.heap = s.heap := by rw [B.state]; rfl
    obtain ⟨t, a1, o, b1, b2, b3⟩ := body p e s m args below meth c s₁ B hml hP s₁ hh0 (Stand.of_body B)
    exact ⟨t, o, a1, b1, b2, b3⟩
/-! ===== END ===== -/
end
section
/-! ===== BEGIN printed: names, fields, word lists, decode rows ===== -/
def RX0 : String := "TandemExchange$BestMatching"
def TX0 : u_T := fun k => match k with
  | _ => ("TandemExchange$BestMatching", "ranks", "[I", true)
def tyX0 : Nat → FieldType := fun k => match k with
  | _ => .array .int
abbrev wsX00 : List Cond := u_ws RX0 TX0 1
theorem nmX0 : ∀ a, a < 1 → ∀ b, b < 1 → a ≠ b → (TX0 a).2.1 ≠ (TX0 b).2.1 := by decide +kernel
theorem tyX0_ok : ∀ k, k < 1 → parseFieldDescriptor (TX0 k).2.2.1 = some (tyX0 k) := by decide +kernel
abbrev cX0_init : ByteArray := prog_2_method_1_code
def yX0_init : MethodName := ⟨RX0, "<init>", "()V"⟩
abbrev cX0_fill : ByteArray := prog_2_method_2_code
def yX0_fill : MethodName := ⟨RX0, "fill", "(LTandemExchange$Circle;)V"⟩
abbrev cX0_rankWith : ByteArray := prog_2_method_3_code
def yX0_rankWith : MethodName := ⟨RX0, "rankWith", "(LTandemExchange$Circle;II)I"⟩
abbrev cX0_rankOfAll : ByteArray := prog_2_method_4_code
def yX0_rankOfAll : MethodName := ⟨RX0, "rankOfAll", "(LTandemExchange$Circle;)I"⟩
abbrev cX0_rankWithout : ByteArray := prog_2_method_5_code
def yX0_rankWithout : MethodName := ⟨RX0, "rankWithout", "(LTandemExchange$Circle;I)I"⟩
abbrev cX0_pairsOf : ByteArray := prog_2_method_6_code
def yX0_pairsOf : MethodName := ⟨RX0, "pairsOf", "(I)I"⟩
abbrev cX0_sumOf : ByteArray := prog_2_method_7_code
def yX0_sumOf : MethodName := ⟨RX0, "sumOf", "(I)I"⟩
def RX1 : String := "TandemExchange$Circle"
def TX1 : u_T := fun k => match k with
  | 0 => ("TandemExchange$Circle", "members", "[LTandemExchange$Member;", true)
  | 1 => ("TandemExchange$Circle", "size", "I", false)
  | _ => ("TandemExchange$Circle", "weeks", "I", false)
def tyX1 : Nat → FieldType := fun k => match k with
  | 0 => .array (.object "TandemExchange$Member")
  | 1 => .int
  | _ => .int
abbrev wsX10 : List Cond := u_ws RX1 TX1 3
theorem nmX1 : ∀ a, a < 3 → ∀ b, b < 3 → a ≠ b → (TX1 a).2.1 ≠ (TX1 b).2.1 := by decide +kernel
theorem tyX1_ok : ∀ k, k < 3 → parseFieldDescriptor (TX1 k).2.2.1 = some (tyX1 k) := by decide +kernel
abbrev cX1_init : ByteArray := prog_3_method_1_code
def yX1_init : MethodName := ⟨RX1, "<init>", "()V"⟩
abbrev cX1_copyFrom : ByteArray := prog_3_method_2_code
def yX1_copyFrom : MethodName := ⟨RX1, "copyFrom", "(LTandemExchange$Circle;)V"⟩
abbrev cX1_has : ByteArray := prog_3_method_3_code
def yX1_has : MethodName := ⟨RX1, "has", "(I)Z"⟩
abbrev cX1_isFree : ByteArray := prog_3_method_4_code
def yX1_isFree : MethodName := ⟨RX1, "isFree", "(I)Z"⟩
abbrev cX1_greaterPartner : ByteArray := prog_3_method_5_code
def yX1_greaterPartner : MethodName := ⟨RX1, "greaterPartner", "(I)I"⟩
abbrev cX1_numberOf : ByteArray := prog_3_method_6_code
def yX1_numberOf : MethodName := ⟨RX1, "numberOf", "(II)I"⟩
abbrev cX1_lead : ByteArray := prog_3_method_7_code
def yX1_lead : MethodName := ⟨RX1, "lead", "(II)I"⟩
abbrev cX1_fit : ByteArray := prog_3_method_8_code
def yX1_fit : MethodName := ⟨RX1, "fit", "(II)Z"⟩
abbrev cX1_score : ByteArray := prog_3_method_9_code
def yX1_score : MethodName := ⟨RX1, "score", "(II)I"⟩
abbrev cX1_value : ByteArray := prog_3_method_10_code
def yX1_value : MethodName := ⟨RX1, "value", "(II)I"⟩
abbrev cX1_block : ByteArray := prog_3_method_11_code
def yX1_block : MethodName := ⟨RX1, "block", "(II)Z"⟩
abbrev cX1_prefers : ByteArray := prog_3_method_12_code
def yX1_prefers : MethodName := ⟨RX1, "prefers", "(II)Z"⟩
abbrev cX1_canBecomePartners : ByteArray := prog_3_method_13_code
def yX1_canBecomePartners : MethodName := ⟨RX1, "canBecomePartners", "(II)Z"⟩
abbrev cX1_countPairs : ByteArray := prog_3_method_14_code
def yX1_countPairs : MethodName := ⟨RX1, "countPairs", "()I"⟩
abbrev cX1_sumOfValues : ByteArray := prog_3_method_15_code
def yX1_sumOfValues : MethodName := ⟨RX1, "sumOfValues", "()I"⟩
abbrev cX1_sumOfCredits : ByteArray := prog_3_method_16_code
def yX1_sumOfCredits : MethodName := ⟨RX1, "sumOfCredits", "()I"⟩
abbrev cX1_countBlocking : ByteArray := prog_3_method_17_code
def yX1_countBlocking : MethodName := ⟨RX1, "countBlocking", "()I"⟩
abbrev cX1_countFittingWith : ByteArray := prog_3_method_18_code
def yX1_countFittingWith : MethodName := ⟨RX1, "countFittingWith", "(I)I"⟩
abbrev cX1_countFitting : ByteArray := prog_3_method_19_code
def yX1_countFitting : MethodName := ⟨RX1, "countFitting", "()I"⟩
abbrev cX1_add : ByteArray := prog_3_method_20_code
def yX1_add : MethodName := ⟨RX1, "add", "(III)V"⟩
abbrev cX1_remove : ByteArray := prog_3_method_21_code
def yX1_remove : MethodName := ⟨RX1, "remove", "(I)V"⟩
abbrev cX1_changeWish : ByteArray := prog_3_method_22_code
def yX1_changeWish : MethodName := ⟨RX1, "changeWish", "(II)V"⟩
abbrev cX1_grade : ByteArray := prog_3_method_23_code
def yX1_grade : MethodName := ⟨RX1, "grade", "(III)V"⟩
abbrev cX1_unite : ByteArray := prog_3_method_24_code
def yX1_unite : MethodName := ⟨RX1, "unite", "(II)V"⟩
abbrev cX1_separate : ByteArray := prog_3_method_25_code
def yX1_separate : MethodName := ⟨RX1, "separate", "(I)V"⟩
abbrev cX1_separateIfUnfit : ByteArray := prog_3_method_26_code
def yX1_separateIfUnfit : MethodName := ⟨RX1, "separateIfUnfit", "(I)V"⟩
abbrev cX1_matchFree : ByteArray := prog_3_method_27_code
def yX1_matchFree : MethodName := ⟨RX1, "matchFree", "()I"⟩
abbrev cX1_uniteBestFreePair : ByteArray := prog_3_method_28_code
def yX1_uniteBestFreePair : MethodName := ⟨RX1, "uniteBestFreePair", "()Z"⟩
abbrev cX1_settleBy : ByteArray := prog_3_method_29_code
def yX1_settleBy : MethodName := ⟨RX1, "settleBy", "(I)I"⟩
abbrev cX1_uniteFirstBlockingPair : ByteArray := prog_3_method_30_code
def yX1_uniteFirstBlockingPair : MethodName := ⟨RX1, "uniteFirstBlockingPair", "()Z"⟩
abbrev cX1_passWeek : ByteArray := prog_3_method_31_code
def yX1_passWeek : MethodName := ⟨RX1, "passWeek", "(I)V"⟩
abbrev cX1_passWeekOfPair : ByteArray := prog_3_method_32_code
def yX1_passWeekOfPair : MethodName := ⟨RX1, "passWeekOfPair", "(III)V"⟩
abbrev cX1_pointsOfMeeting : ByteArray := prog_3_method_33_code
def yX1_pointsOfMeeting : MethodName := ⟨RX1, "pointsOfMeeting", "(II)I"⟩
def RX2 : String := "TandemExchange$History"
def TX2 : u_T := fun k => match k with
  | 0 => ("TandemExchange$History", "states", "[LTandemExchange$Circle;", true)
  | 1 => ("TandemExchange$History", "oldest", "I", false)
  | _ => ("TandemExchange$History", "count", "I", false)
def tyX2 : Nat → FieldType := fun k => match k with
  | 0 => .array (.object "TandemExchange$Circle")
  | 1 => .int
  | _ => .int
abbrev wsX20 : List Cond := u_ws RX2 TX2 3
theorem nmX2 : ∀ a, a < 3 → ∀ b, b < 3 → a ≠ b → (TX2 a).2.1 ≠ (TX2 b).2.1 := by decide +kernel
theorem tyX2_ok : ∀ k, k < 3 → parseFieldDescriptor (TX2 k).2.2.1 = some (tyX2 k) := by decide +kernel
abbrev cX2_init : ByteArray := prog_4_method_1_code
def yX2_init : MethodName := ⟨RX2, "<init>", "()V"⟩
abbrev cX2_remember : ByteArray := prog_4_method_2_code
def yX2_remember : MethodName := ⟨RX2, "remember", "(LTandemExchange$Circle;)V"⟩
abbrev cX2_takeBack : ByteArray := prog_4_method_3_code
def yX2_takeBack : MethodName := ⟨RX2, "takeBack", "(LTandemExchange$Circle;)V"⟩
abbrev cX2_forget : ByteArray := prog_4_method_4_code
def yX2_forget : MethodName := ⟨RX2, "forget", "()V"⟩
def RX3 : String := "TandemExchange$Member"
def TX3 : u_T := fun k => match k with
  | 0 => ("TandemExchange$Member", "levels", "[I", true)
  | 1 => ("TandemExchange$Member", "wants", "I", false)
  | 2 => ("TandemExchange$Member", "progress", "I", false)
  | 3 => ("TandemExchange$Member", "credits", "I", false)
  | 4 => ("TandemExchange$Member", "missed", "I", false)
  | 5 => ("TandemExchange$Member", "partner", "I", false)
  | _ => ("TandemExchange$Member", "missedInRow", "I", false)
def tyX3 : Nat → FieldType := fun k => match k with
  | 0 => .array .int
  | 1 => .int
  | 2 => .int
  | 3 => .int
  | 4 => .int
  | 5 => .int
  | _ => .int
abbrev wsX30 : List Cond := u_ws RX3 TX3 7
theorem nmX3 : ∀ a, a < 7 → ∀ b, b < 7 → a ≠ b → (TX3 a).2.1 ≠ (TX3 b).2.1 := by decide +kernel
theorem tyX3_ok : ∀ k, k < 7 → parseFieldDescriptor (TX3 k).2.2.1 = some (tyX3 k) := by decide +kernel
abbrev cX3_init : ByteArray := prog_5_method_1_code
def yX3_init : MethodName := ⟨RX3, "<init>", "()V"⟩
abbrev cX3_copyFrom : ByteArray := prog_5_method_2_code
def yX3_copyFrom : MethodName := ⟨RX3, "copyFrom", "(LTandemExchange$Member;)V"⟩
abbrev cX3_start : ByteArray := prog_5_method_3_code
def yX3_start : MethodName := ⟨RX3, "start", "(III)V"⟩
abbrev cX3_wantedLevel : ByteArray := prog_5_method_4_code
def yX3_wantedLevel : MethodName := ⟨RX3, "wantedLevel", "()I"⟩
abbrev cX3_gainCredits : ByteArray := prog_5_method_5_code
def yX3_gainCredits : MethodName := ⟨RX3, "gainCredits", "(I)V"⟩
abbrev cX3_learn : ByteArray := prog_5_method_6_code
def yX3_learn : MethodName := ⟨RX3, "learn", "(I)V"⟩
abbrev cX3_meet : ByteArray := prog_5_method_7_code
def yX3_meet : MethodName := ⟨RX3, "meet", "(I)V"⟩
abbrev cX3_failToMeet : ByteArray := prog_5_method_8_code
def yX3_failToMeet : MethodName := ⟨RX3, "failToMeet", "(Z)V"⟩
def RX4 : String := "TandemExchange$Text"
def TX4 : u_T := fun k => match k with
  | 0 => ("TandemExchange$Text", "characters", "[C", true)
  | _ => ("TandemExchange$Text", "length", "I", false)
def tyX4 : Nat → FieldType := fun k => match k with
  | 0 => .array .char
  | _ => .int
abbrev wsX40 : List Cond := u_ws RX4 TX4 2
theorem nmX4 : ∀ a, a < 2 → ∀ b, b < 2 → a ≠ b → (TX4 a).2.1 ≠ (TX4 b).2.1 := by decide +kernel
theorem tyX4_ok : ∀ k, k < 2 → parseFieldDescriptor (TX4 k).2.2.1 = some (tyX4 k) := by decide +kernel
abbrev cX4_init : ByteArray := prog_6_method_1_code
def yX4_init : MethodName := ⟨RX4, "<init>", "()V"⟩
abbrev cX4_add : ByteArray := prog_6_method_2_code
def yX4_add : MethodName := ⟨RX4, "add", "(C)V"⟩
abbrev cX4_firstError : ByteArray := prog_6_method_3_code
def yX4_firstError : MethodName := ⟨RX4, "firstError", "()I"⟩
abbrev cX4_allows : ByteArray := prog_6_method_4_code
def yX4_allows : MethodName := ⟨RX4, "allows", "(IC)Z"⟩
abbrev cX4_isWhole : ByteArray := prog_6_method_5_code
def yX4_isWhole : MethodName := ⟨RX4, "isWhole", "()Z"⟩
abbrev cX4_readInto : ByteArray := prog_6_method_6_code
def yX4_readInto : MethodName := ⟨RX4, "readInto", "(LTandemExchange$Circle;)V"⟩
abbrev cX4_number : ByteArray := prog_6_method_7_code
def yX4_number : MethodName := ⟨RX4, "number", "(II)I"⟩
def RX5 : String := "TandemExchange"
def TX5 : u_T := fun k => match k with
  | 0 => ("TandemExchange", "text", "LTandemExchange$Text;", true)
  | 1 => ("TandemExchange", "circle", "LTandemExchange$Circle;", true)
  | 2 => ("TandemExchange", "trial", "LTandemExchange$Circle;", true)
  | 3 => ("TandemExchange", "history", "LTandemExchange$History;", true)
  | 4 => ("TandemExchange", "slots", "[LTandemExchange$Circle;", true)
  | 5 => ("TandemExchange", "saved", "[Z", true)
  | _ => ("TandemExchange", "bestMatching", "LTandemExchange$BestMatching;", true)
def tyX5 : Nat → FieldType := fun k => match k with
  | 0 => .object "TandemExchange$Text"
  | 1 => .object "TandemExchange$Circle"
  | 2 => .object "TandemExchange$Circle"
  | 3 => .object "TandemExchange$History"
  | 4 => .array (.object "TandemExchange$Circle")
  | 5 => .array .boolean
  | _ => .object "TandemExchange$BestMatching"
abbrev wsX50 : List Cond := u_ws RX5 TX5 7
theorem nmX5 : ∀ a, a < 7 → ∀ b, b < 7 → a ≠ b → (TX5 a).2.1 ≠ (TX5 b).2.1 := by decide +kernel
theorem tyX5_ok : ∀ k, k < 7 → parseFieldDescriptor (TX5 k).2.2.1 = some (tyX5 k) := by decide +kernel
abbrev cX5_init : ByteArray := prog_1_method_1_code
def yX5_init : MethodName := ⟨RX5, "<init>", "()V"⟩
abbrev cX5_append : ByteArray := prog_1_method_2_code
def yX5_append : MethodName := ⟨RX5, "append", "(I)I"⟩
abbrev cX5_clearText : ByteArray := prog_1_method_3_code
def yX5_clearText : MethodName := ⟨RX5, "clearText", "()I"⟩
abbrev cX5_errorPosition : ByteArray := prog_1_method_4_code
def yX5_errorPosition : MethodName := ⟨RX5, "errorPosition", "()I"⟩
abbrev cX5_load : ByteArray := prog_1_method_5_code
def yX5_load : MethodName := ⟨RX5, "load", "()I"⟩
abbrev cX5_about : ByteArray := prog_1_method_6_code
def yX5_about : MethodName := ⟨RX5, "about", "(I)I"⟩
abbrev cX5_member : ByteArray := prog_1_method_7_code
def yX5_member : MethodName := ⟨RX5, "member", "(II)I"⟩
abbrev cX5_both : ByteArray := prog_1_method_8_code
def yX5_both : MethodName := ⟨RX5, "both", "(III)I"⟩
abbrev cX5_join : ByteArray := prog_1_method_9_code
def yX5_join : MethodName := ⟨RX5, "join", "(III)I"⟩
abbrev cX5_leave : ByteArray := prog_1_method_10_code
def yX5_leave : MethodName := ⟨RX5, "leave", "(I)I"⟩
abbrev cX5_want : ByteArray := prog_1_method_11_code
def yX5_want : MethodName := ⟨RX5, "want", "(II)I"⟩
abbrev cX5_test : ByteArray := prog_1_method_12_code
def yX5_test : MethodName := ⟨RX5, "test", "(III)I"⟩
abbrev cX5_pair : ByteArray := prog_1_method_13_code
def yX5_pair : MethodName := ⟨RX5, "pair", "(II)I"⟩
abbrev cX5_part : ByteArray := prog_1_method_14_code
def yX5_part : MethodName := ⟨RX5, "part", "(I)I"⟩
abbrev cX5_match : ByteArray := prog_1_method_15_code
def yX5_match : MethodName := ⟨RX5, "match", "()I"⟩
abbrev cX5_settle : ByteArray := prog_1_method_16_code
def yX5_settle : MethodName := ⟨RX5, "settle", "(I)I"⟩
abbrev cX5_week : ByteArray := prog_1_method_17_code
def yX5_week : MethodName := ⟨RX5, "week", "(I)I"⟩
abbrev cX5_undo : ByteArray := prog_1_method_18_code
def yX5_undo : MethodName := ⟨RX5, "undo", "()I"⟩
abbrev cX5_blocking : ByteArray := prog_1_method_19_code
def yX5_blocking : MethodName := ⟨RX5, "blocking", "(IZ)I"⟩
abbrev cX5_bestPartner : ByteArray := prog_1_method_20_code
def yX5_bestPartner : MethodName := ⟨RX5, "bestPartner", "(IZ)I"⟩
abbrev cX5_best : ByteArray := prog_1_method_21_code
def yX5_best : MethodName := ⟨RX5, "best", "(I)I"⟩
abbrev cX5_missedMost : ByteArray := prog_1_method_22_code
def yX5_missedMost : MethodName := ⟨RX5, "missedMost", "()I"⟩
abbrev cX5_ahead : ByteArray := prog_1_method_23_code
def yX5_ahead : MethodName := ⟨RX5, "ahead", "(IIII)I"⟩
abbrev cX5_levelAfter : ByteArray := prog_1_method_24_code
def yX5_levelAfter : MethodName := ⟨RX5, "levelAfter", "(II)I"⟩
abbrev cX5_partsAfter : ByteArray := prog_1_method_25_code
def yX5_partsAfter : MethodName := ⟨RX5, "partsAfter", "(II)I"⟩
abbrev cX5_runScript : ByteArray := prog_1_method_26_code
def yX5_runScript : MethodName := ⟨RX5, "runScript", "(IJ)I"⟩
abbrev cX5_simulate : ByteArray := prog_1_method_27_code
def yX5_simulate : MethodName := ⟨RX5, "simulate", "(JI)I"⟩
abbrev cX5_save : ByteArray := prog_1_method_28_code
def yX5_save : MethodName := ⟨RX5, "save", "(I)I"⟩
abbrev cX5_restore : ByteArray := prog_1_method_29_code
def yX5_restore : MethodName := ⟨RX5, "restore", "(I)I"⟩
abbrev cX5_requireMember : ByteArray := prog_1_method_30_code
def yX5_requireMember : MethodName := ⟨RX5, "requireMember", "(I)V"⟩
abbrev cX5_requireTwoMembers : ByteArray := prog_1_method_31_code
def yX5_requireTwoMembers : MethodName := ⟨RX5, "requireTwoMembers", "(II)V"⟩
abbrev cX5_requirePartner : ByteArray := prog_1_method_32_code
def yX5_requirePartner : MethodName := ⟨RX5, "requirePartner", "(I)V"⟩
abbrev cX5_requireLanguage : ByteArray := prog_1_method_33_code
def yX5_requireLanguage : MethodName := ⟨RX5, "requireLanguage", "(I)V"⟩
abbrev cX5_requireRange : ByteArray := prog_1_method_34_code
def yX5_requireRange : MethodName := ⟨RX5, "requireRange", "(III)V"⟩
abbrev cX5_requireSlot : ByteArray := prog_1_method_35_code
def yX5_requireSlot : MethodName := ⟨RX5, "requireSlot", "(I)V"⟩
abbrev cX5_withoutLowestGroups : ByteArray := prog_1_method_36_code
def yX5_withoutLowestGroups : MethodName := ⟨RX5, "withoutLowestGroups", "(JI)J"⟩
abbrev cX5_commandSucceeds : ByteArray := prog_1_method_37_code
def yX5_commandSucceeds : MethodName := ⟨RX5, "commandSucceeds", "(I)Z"⟩
def RX6 : String := "TandemExchangeModel"
def TX6 : u_T := fun k => match k with
  | 0 => ("TandemExchangeModel", "refusal", "I", false)
  | 1 => ("TandemExchangeModel", "text", "[I", true)
  | 2 => ("TandemExchangeModel", "textSize", "I", false)
  | 3 => ("TandemExchangeModel", "spot", "I", false)
  | 4 => ("TandemExchangeModel", "read", "[I", true)
  | 5 => ("TandemExchangeModel", "now", "[I", true)
  | 6 => ("TandemExchangeModel", "trial", "[I", true)
  | 7 => ("TandemExchangeModel", "diary", "[I", true)
  | 8 => ("TandemExchangeModel", "acts", "I", false)
  | 9 => ("TandemExchangeModel", "kept", "[I", true)
  | 10 => ("TandemExchangeModel", "isKept", "[Z", true)
  | 11 => ("TandemExchangeModel", "pairs", "[I", true)
  | _ => ("TandemExchangeModel", "sums", "[I", true)
def tyX6 : Nat → FieldType := fun k => match k with
  | 0 => .int
  | 1 => .array .int
  | 2 => .int
  | 3 => .int
  | 4 => .array .int
  | 5 => .array .int
  | 6 => .array .int
  | 7 => .array .int
  | 8 => .int
  | 9 => .array .int
  | 10 => .array .boolean
  | 11 => .array .int
  | _ => .array .int
abbrev wsX60 : List Cond := u_ws RX6 TX6 13
theorem nmX6 : ∀ a, a < 13 → ∀ b, b < 13 → a ≠ b → (TX6 a).2.1 ≠ (TX6 b).2.1 := by decide +kernel
theorem tyX6_ok : ∀ k, k < 13 → parseFieldDescriptor (TX6 k).2.2.1 = some (tyX6 k) := by decide +kernel
abbrev cX6_init : ByteArray := prog_8_method_1_code
def yX6_init : MethodName := ⟨RX6, "<init>", "()V"⟩
abbrev cX6_thrown : ByteArray := prog_8_method_2_code
def yX6_thrown : MethodName := ⟨RX6, "thrown", "()I"⟩
abbrev cX6_refused : ByteArray := prog_8_method_3_code
def yX6_refused : MethodName := ⟨RX6, "refused", "(I)Z"⟩
abbrev cX6_in : ByteArray := prog_8_method_4_code
def yX6_in : MethodName := ⟨RX6, "in", "(JJJ)Z"⟩
abbrev cX6_copyPage : ByteArray := prog_8_method_5_code
def yX6_copyPage : MethodName := ⟨RX6, "copyPage", "([II[II)V"⟩
abbrev cX6_at : ByteArray := prog_8_method_6_code
def yX6_at : MethodName := ⟨RX6, "at", "(I)I"⟩
abbrev cX6_isMember : ByteArray := prog_8_method_7_code
def yX6_isMember : MethodName := ⟨RX6, "isMember", "([II)Z"⟩
abbrev cX6_better : ByteArray := prog_8_method_8_code
def yX6_better : MethodName := ⟨RX6, "better", "([III)I"⟩
abbrev cX6_quarter : ByteArray := prog_8_method_9_code
def yX6_quarter : MethodName := ⟨RX6, "quarter", "(I)I"⟩
abbrev cX6_score : ByteArray := prog_8_method_10_code
def yX6_score : MethodName := ⟨RX6, "score", "([III)I"⟩
abbrev cX6_valueOf : ByteArray := prog_8_method_11_code
def yX6_valueOf : MethodName := ⟨RX6, "valueOf", "([III)I"⟩
abbrev cX6_fit : ByteArray := prog_8_method_12_code
def yX6_fit : MethodName := ⟨RX6, "fit", "([III)Z"⟩
abbrev cX6_isFree : ByteArray := prog_8_method_13_code
def yX6_isFree : MethodName := ⟨RX6, "isFree", "([II)Z"⟩
abbrev cX6_prefers : ByteArray := prog_8_method_14_code
def yX6_prefers : MethodName := ⟨RX6, "prefers", "([III)Z"⟩
abbrev cX6_block : ByteArray := prog_8_method_15_code
def yX6_block : MethodName := ⟨RX6, "block", "([III)Z"⟩
abbrev cX6_free : ByteArray := prog_8_method_16_code
def yX6_free : MethodName := ⟨RX6, "free", "([II)V"⟩
abbrev cX6_partOn : ByteArray := prog_8_method_17_code
def yX6_partOn : MethodName := ⟨RX6, "partOn", "([II)V"⟩
abbrev cX6_pairOn : ByteArray := prog_8_method_18_code
def yX6_pairOn : MethodName := ⟨RX6, "pairOn", "([III)V"⟩
abbrev cX6_mend : ByteArray := prog_8_method_19_code
def yX6_mend : MethodName := ⟨RX6, "mend", "([II)V"⟩
abbrev cX6_matchOn : ByteArray := prog_8_method_20_code
def yX6_matchOn : MethodName := ⟨RX6, "matchOn", "([I)I"⟩
abbrev cX6_blockAt : ByteArray := prog_8_method_21_code
def yX6_blockAt : MethodName := ⟨RX6, "blockAt", "([II)I"⟩
abbrev cX6_settleOn : ByteArray := prog_8_method_22_code
def yX6_settleOn : MethodName := ⟨RX6, "settleOn", "([II)I"⟩
abbrev cX6_credit : ByteArray := prog_8_method_23_code
def yX6_credit : MethodName := ⟨RX6, "credit", "([III)V"⟩
abbrev cX6_learn : ByteArray := prog_8_method_24_code
def yX6_learn : MethodName := ⟨RX6, "learn", "([III)V"⟩
abbrev cX6_miss : ByteArray := prog_8_method_25_code
def yX6_miss : MethodName := ⟨RX6, "miss", "([IIZ)V"⟩
abbrev cX6_meet : ByteArray := prog_8_method_26_code
def yX6_meet : MethodName := ⟨RX6, "meet", "([IIII)V"⟩
abbrev cX6_weekOn : ByteArray := prog_8_method_27_code
def yX6_weekOn : MethodName := ⟨RX6, "weekOn", "([II)V"⟩
abbrev cX6_laySets : ByteArray := prog_8_method_28_code
def yX6_laySets : MethodName := ⟨RX6, "laySets", "([I)V"⟩
abbrev cX6_append : ByteArray := prog_8_method_29_code
def yX6_append : MethodName := ⟨RX6, "append", "(I)I"⟩
abbrev cX6_clearText : ByteArray := prog_8_method_30_code
def yX6_clearText : MethodName := ⟨RX6, "clearText", "()I"⟩
abbrev cX6_eat : ByteArray := prog_8_method_31_code
def yX6_eat : MethodName := ⟨RX6, "eat", "(I)Z"⟩
abbrev cX6_digit : ByteArray := prog_8_method_32_code
def yX6_digit : MethodName := ⟨RX6, "digit", "(I)I"⟩
abbrev cX6_readMember : ByteArray := prog_8_method_33_code
def yX6_readMember : MethodName := ⟨RX6, "readMember", "()Z"⟩
abbrev cX6_readAll : ByteArray := prog_8_method_34_code
def yX6_readAll : MethodName := ⟨RX6, "readAll", "()Z"⟩
abbrev cX6_errorPosition : ByteArray := prog_8_method_35_code
def yX6_errorPosition : MethodName := ⟨RX6, "errorPosition", "()I"⟩
abbrev cX6_load : ByteArray := prog_8_method_36_code
def yX6_load : MethodName := ⟨RX6, "load", "()I"⟩
abbrev cX6_over : ByteArray := prog_8_method_37_code
def yX6_over : MethodName := ⟨RX6, "over", "([II)I"⟩
abbrev cX6_creditsOf : ByteArray := prog_8_method_38_code
def yX6_creditsOf : MethodName := ⟨RX6, "creditsOf", "([I)I"⟩
abbrev cX6_about : ByteArray := prog_8_method_39_code
def yX6_about : MethodName := ⟨RX6, "about", "(I)I"⟩
abbrev cX6_detail : ByteArray := prog_8_method_40_code
def yX6_detail : MethodName := ⟨RX6, "detail", "([III)I"⟩
abbrev cX6_member : ByteArray := prog_8_method_41_code
def yX6_member : MethodName := ⟨RX6, "member", "(II)I"⟩
abbrev cX6_both : ByteArray := prog_8_method_42_code
def yX6_both : MethodName := ⟨RX6, "both", "(III)I"⟩
abbrev cX6_note : ByteArray := prog_8_method_43_code
def yX6_note : MethodName := ⟨RX6, "note", "()V"⟩
abbrev cX6_join : ByteArray := prog_8_method_44_code
def yX6_join : MethodName := ⟨RX6, "join", "(III)I"⟩
abbrev cX6_leave : ByteArray := prog_8_method_45_code
def yX6_leave : MethodName := ⟨RX6, "leave", "(I)I"⟩
abbrev cX6_isTongue : ByteArray := prog_8_method_46_code
def yX6_isTongue : MethodName := ⟨RX6, "isTongue", "(I)Z"⟩
abbrev cX6_want : ByteArray := prog_8_method_47_code
def yX6_want : MethodName := ⟨RX6, "want", "(II)I"⟩
abbrev cX6_testOn : ByteArray := prog_8_method_48_code
def yX6_testOn : MethodName := ⟨RX6, "testOn", "([IIII)I"⟩
abbrev cX6_test : ByteArray := prog_8_method_49_code
def yX6_test : MethodName := ⟨RX6, "test", "(III)I"⟩
abbrev cX6_canPair : ByteArray := prog_8_method_50_code
def yX6_canPair : MethodName := ⟨RX6, "canPair", "([III)Z"⟩
abbrev cX6_pair : ByteArray := prog_8_method_51_code
def yX6_pair : MethodName := ⟨RX6, "pair", "(II)I"⟩
abbrev cX6_part : ByteArray := prog_8_method_52_code
def yX6_part : MethodName := ⟨RX6, "part", "(I)I"⟩
abbrev cX6_match : ByteArray := prog_8_method_53_code
def yX6_match : MethodName := ⟨RX6, "match", "()I"⟩
abbrev cX6_settle : ByteArray := prog_8_method_54_code
def yX6_settle : MethodName := ⟨RX6, "settle", "(I)I"⟩
abbrev cX6_isAbsent : ByteArray := prog_8_method_55_code
def yX6_isAbsent : MethodName := ⟨RX6, "isAbsent", "(I)Z"⟩
abbrev cX6_week : ByteArray := prog_8_method_56_code
def yX6_week : MethodName := ⟨RX6, "week", "(I)I"⟩
abbrev cX6_undo : ByteArray := prog_8_method_57_code
def yX6_undo : MethodName := ⟨RX6, "undo", "()I"⟩
abbrev cX6_blocking : ByteArray := prog_8_method_58_code
def yX6_blocking : MethodName := ⟨RX6, "blocking", "(IZ)I"⟩
abbrev cX6_bestPartner : ByteArray := prog_8_method_59_code
def yX6_bestPartner : MethodName := ⟨RX6, "bestPartner", "(IZ)I"⟩
abbrev cX6_best : ByteArray := prog_8_method_60_code
def yX6_best : MethodName := ⟨RX6, "best", "(I)I"⟩
abbrev cX6_missedMost : ByteArray := prog_8_method_61_code
def yX6_missedMost : MethodName := ⟨RX6, "missedMost", "()I"⟩
abbrev cX6_ahead : ByteArray := prog_8_method_62_code
def yX6_ahead : MethodName := ⟨RX6, "ahead", "(IIII)I"⟩
abbrev cX6_levelAfter : ByteArray := prog_8_method_63_code
def yX6_levelAfter : MethodName := ⟨RX6, "levelAfter", "(II)I"⟩
abbrev cX6_partsAfter : ByteArray := prog_8_method_64_code
def yX6_partsAfter : MethodName := ⟨RX6, "partsAfter", "(II)I"⟩
abbrev cX6_does : ByteArray := prog_8_method_65_code
def yX6_does : MethodName := ⟨RX6, "does", "(IIII)Z"⟩
abbrev cX6_runScript : ByteArray := prog_8_method_66_code
def yX6_runScript : MethodName := ⟨RX6, "runScript", "(IJ)I"⟩
abbrev cX6_simulate : ByteArray := prog_8_method_67_code
def yX6_simulate : MethodName := ⟨RX6, "simulate", "(JI)I"⟩
abbrev cX6_save : ByteArray := prog_8_method_68_code
def yX6_save : MethodName := ⟨RX6, "save", "(I)I"⟩
abbrev cX6_restore : ByteArray := prog_8_method_69_code
def yX6_restore : MethodName := ⟨RX6, "restore", "(I)I"⟩
def RJ9 : String := "java/lang/Math"
def TJ9 : u_T := fun k => match k with
  | _ => ("", "", "", false)
def tyJ9 : Nat → FieldType := fun k => match k with
  | _ => .int
abbrev wsJ90 : List Cond := u_ws RJ9 TJ9 0
theorem nmJ9 : ∀ a, a < 0 → ∀ b, b < 0 → a ≠ b → (TJ9 a).2.1 ≠ (TJ9 b).2.1 := by decide +kernel
theorem tyJ9_ok : ∀ k, k < 0 → parseFieldDescriptor (TJ9 k).2.2.1 = some (tyJ9 k) := by decide +kernel
abbrev cJ9_floorDiv_7cf53 : ByteArray := prog_13_method_47_code
def yJ9_floorDiv_7cf53 : MethodName := ⟨RJ9, "floorDiv", "(II)I"⟩
abbrev cJ9_max_7cf53 : ByteArray := prog_13_method_65_code
def yJ9_max_7cf53 : MethodName := ⟨RJ9, "max", "(II)I"⟩
abbrev cJ9_min_7cf53 : ByteArray := prog_13_method_69_code
def yJ9_min_7cf53 : MethodName := ⟨RJ9, "min", "(II)I"⟩
def RJ0 : String := "java/lang/String"
def TJ0 : u_T := fun k => match k with
  | _ => ("", "", "", false)
def tyJ0 : Nat → FieldType := fun k => match k with
  | _ => .int
abbrev wsJ00 : List Cond := u_ws RJ0 TJ0 0
theorem nmJ0 : ∀ a, a < 0 → ∀ b, b < 0 → a ≠ b → (TJ0 a).2.1 ≠ (TJ0 b).2.1 := by decide +kernel
theorem tyJ0_ok : ∀ k, k < 0 → parseFieldDescriptor (TJ0 k).2.2.1 = some (tyJ0 k) := by decide +kernel
def RJ10 : String := "java/lang/System"
def TJ10 : u_T := fun k => match k with
  | _ => ("", "", "", false)
def tyJ10 : Nat → FieldType := fun k => match k with
  | _ => .int
abbrev wsJ100 : List Cond := u_ws RJ10 TJ10 0
theorem nmJ10 : ∀ a, a < 0 → ∀ b, b < 0 → a ≠ b → (TJ10 a).2.1 ≠ (TJ10 b).2.1 := by decide +kernel
theorem tyJ10_ok : ∀ k, k < 0 → parseFieldDescriptor (TJ10 k).2.2.1 = some (tyJ10 k) := by decide +kernel
def RL : String := "TandemExchangeLaw"
abbrev cL_append : ByteArray := method_3_code
def yL_append : MethodName := ⟨RL, "append", "(LTandemExchange;I[J)I"⟩
abbrev cL_load : ByteArray := method_4_code
def yL_load : MethodName := ⟨RL, "load", "(LTandemExchange;[J)I"⟩
abbrev cL_about : ByteArray := method_5_code
def yL_about : MethodName := ⟨RL, "about", "(LTandemExchange;I[J)I"⟩
abbrev cL_member : ByteArray := method_6_code
def yL_member : MethodName := ⟨RL, "member", "(LTandemExchange;II[J)I"⟩
abbrev cL_both : ByteArray := method_7_code
def yL_both : MethodName := ⟨RL, "both", "(LTandemExchange;III[J)I"⟩
abbrev cL_join : ByteArray := method_8_code
def yL_join : MethodName := ⟨RL, "join", "(LTandemExchange;III[J)I"⟩
abbrev cL_leave : ByteArray := method_9_code
def yL_leave : MethodName := ⟨RL, "leave", "(LTandemExchange;I[J)I"⟩
abbrev cL_want : ByteArray := method_10_code
def yL_want : MethodName := ⟨RL, "want", "(LTandemExchange;II[J)I"⟩
abbrev cL_test : ByteArray := method_11_code
def yL_test : MethodName := ⟨RL, "test", "(LTandemExchange;III[J)I"⟩
abbrev cL_pair : ByteArray := method_12_code
def yL_pair : MethodName := ⟨RL, "pair", "(LTandemExchange;II[J)I"⟩
abbrev cL_part : ByteArray := method_13_code
def yL_part : MethodName := ⟨RL, "part", "(LTandemExchange;I[J)I"⟩
abbrev cL_settle : ByteArray := method_14_code
def yL_settle : MethodName := ⟨RL, "settle", "(LTandemExchange;I[J)I"⟩
abbrev cL_week : ByteArray := method_15_code
def yL_week : MethodName := ⟨RL, "week", "(LTandemExchange;I[J)I"⟩
abbrev cL_undo : ByteArray := method_16_code
def yL_undo : MethodName := ⟨RL, "undo", "(LTandemExchange;[J)I"⟩
abbrev cL_blocking : ByteArray := method_17_code
def yL_blocking : MethodName := ⟨RL, "blocking", "(LTandemExchange;IZ[J)I"⟩
abbrev cL_bestPartner : ByteArray := method_18_code
def yL_bestPartner : MethodName := ⟨RL, "bestPartner", "(LTandemExchange;IZ[J)I"⟩
abbrev cL_best : ByteArray := method_19_code
def yL_best : MethodName := ⟨RL, "best", "(LTandemExchange;I[J)I"⟩
abbrev cL_ahead : ByteArray := method_20_code
def yL_ahead : MethodName := ⟨RL, "ahead", "(LTandemExchange;IIII[J)I"⟩
abbrev cL_levelAfter : ByteArray := method_21_code
def yL_levelAfter : MethodName := ⟨RL, "levelAfter", "(LTandemExchange;II[J)I"⟩
abbrev cL_partsAfter : ByteArray := method_22_code
def yL_partsAfter : MethodName := ⟨RL, "partsAfter", "(LTandemExchange;II[J)I"⟩
abbrev cL_runScript : ByteArray := method_23_code
def yL_runScript : MethodName := ⟨RL, "runScript", "(LTandemExchange;IJ[J)I"⟩
abbrev cL_simulate : ByteArray := method_24_code
def yL_simulate : MethodName := ⟨RL, "simulate", "(LTandemExchange;JI[J)I"⟩
abbrev cL_save : ByteArray := method_25_code
def yL_save : MethodName := ⟨RL, "save", "(LTandemExchange;I[J)I"⟩
abbrev cL_restore : ByteArray := method_26_code
def yL_restore : MethodName := ⟨RL, "restore", "(LTandemExchange;I[J)I"⟩
abbrev cL_law : ByteArray := code
def yL_law : MethodName := ⟨RL, "law", "([I)Z"⟩
def wsX0_init : List Cond := .code yX0_init cX0_init 1 none :: ([.methodLink RX0 3 objectInit, .instanceMethod objectInit, .code objectInit ⟨#[0xb1]⟩ 1 none, .arrayClass .int, .fieldLink RX0 9 "TandemExchange$BestMatching" "ranks" "[I"] ++ wsX00)
def wsX1_lead : List Cond := .code yX1_lead cX1_lead 4 (some .int) :: ([.fieldLink RX1 11 "TandemExchange$Circle" "members" "[LTandemExchange$Member;", .fieldLink RX1 40 "TandemExchange$Member" "wants" "I", .fieldLink RX1 36 "TandemExchange$Member" "levels" "[I"] ++ wsX10 ++ wsX30)
def wsX1_fit : List Cond := .code yX1_fit cX1_fit 3 (some .boolean) :: ([.methodLink RX1 62 yX1_lead, .instanceMethod yX1_lead, .selects RX1 yX1_lead yX1_lead, .initialized RX1, .code yX1_lead cX1_lead 4 (some .int), .fieldLink RX1 11 "TandemExchange$Circle" "members" "[LTandemExchange$Member;", .fieldLink RX1 40 "TandemExchange$Member" "wants" "I", .fieldLink RX1 36 "TandemExchange$Member" "levels" "[I"] ++ wsX10 ++ wsX30)
def wsJ9_floorDiv_7cf53 : List Cond := .code yJ9_floorDiv_7cf53 cJ9_floorDiv_7cf53 3 (some .int) :: ([])
def wsX1_score : List Cond := .code yX1_score cX1_score 4 (some .int) :: ([.fieldLink RX1 11 "TandemExchange$Circle" "members" "[LTandemExchange$Member;", .fieldLink RX1 49 "TandemExchange$Member" "missed" "I", .fieldLink RX1 46 "TandemExchange$Member" "credits" "I", .methodLink RX1 62 yX1_lead, .instanceMethod yX1_lead, .selects RX1 yX1_lead yX1_lead, .initialized RX1, .code yX1_lead cX1_lead 4 (some .int), .fieldLink RX1 40 "TandemExchange$Member" "wants" "I", .fieldLink RX1 36 "TandemExchange$Member" "levels" "[I", .methodLink RX1 66 yJ9_floorDiv_7cf53, .static yJ9_floorDiv_7cf53, .initialized RJ9, .code yJ9_floorDiv_7cf53 cJ9_floorDiv_7cf53 3 (some .int)] ++ wsX10 ++ wsX30)
def wsX1_value : List Cond := .code yX1_value cX1_value 3 (some .int) :: ([.methodLink RX1 71 yX1_score, .instanceMethod yX1_score, .selects RX1 yX1_score yX1_score, .initialized RX1, .code yX1_score cX1_score 4 (some .int), .fieldLink RX1 11 "TandemExchange$Circle" "members" "[LTandemExchange$Member;", .fieldLink RX1 49 "TandemExchange$Member" "missed" "I", .fieldLink RX1 46 "TandemExchange$Member" "credits" "I", .methodLink RX1 62 yX1_lead, .instanceMethod yX1_lead, .selects RX1 yX1_lead yX1_lead, .code yX1_lead cX1_lead 4 (some .int), .fieldLink RX1 40 "TandemExchange$Member" "wants" "I", .fieldLink RX1 36 "TandemExchange$Member" "levels" "[I", .methodLink RX1 66 yJ9_floorDiv_7cf53, .static yJ9_floorDiv_7cf53, .initialized RJ9, .code yJ9_floorDiv_7cf53 cJ9_floorDiv_7cf53 3 (some .int)] ++ wsX10 ++ wsX30)
def wsX0_rankWith_r1 : List Cond := [Cond.fieldLink RX0 9 "TandemExchange$BestMatching" "ranks" "[I", Cond.constant RX0 29 (1000000), Cond.methodLink RX0 34 Lib.Math.max.name, Cond.static Lib.Math.max.name, Cond.initialized "java/lang/Math", Cond.code Lib.Math.max.name Lib.Math.max.code 2 (some .int), Cond.methodLink RX0 25 yX1_fit, Cond.instanceMethod yX1_fit, Cond.selects RX1 yX1_fit yX1_fit, Cond.initialized RX1, Cond.code yX1_fit cX1_fit 3 (some .boolean), Cond.methodLink RX1 62 yX1_lead, Cond.instanceMethod yX1_lead, Cond.selects RX1 yX1_lead yX1_lead, Cond.code yX1_lead cX1_lead 4 (some .int), Cond.fieldLink RX1 11 "TandemExchange$Circle" "members" "[LTandemExchange$Member;", Cond.fieldLink RX1 40 "TandemExchange$Member" "wants" "I", Cond.fieldLink RX1 36 "TandemExchange$Member" "levels" "[I", Cond.methodLink RX0 30 yX1_value, Cond.instanceMethod yX1_value, Cond.selects RX1 yX1_value yX1_value, Cond.code yX1_value cX1_value 3 (some .int), Cond.methodLink RX1 71 yX1_score, Cond.instanceMethod yX1_score]
def wsX0_rankWith_r2 : List Cond := [Cond.selects RX1 yX1_score yX1_score, Cond.code yX1_score cX1_score 4 (some .int), Cond.fieldLink RX1 49 "TandemExchange$Member" "missed" "I", Cond.fieldLink RX1 46 "TandemExchange$Member" "credits" "I", Cond.methodLink RX1 66 yJ9_floorDiv_7cf53, Cond.static yJ9_floorDiv_7cf53, Cond.initialized RJ9, Cond.code yJ9_floorDiv_7cf53 cJ9_floorDiv_7cf53 3 (some .int)]
def wsX0_rankWith : List Cond := .code yX0_rankWith cX0_rankWith 7 (some .int) :: ((wsX0_rankWith_r1 ++ wsX0_rankWith_r2) ++ wsX00 ++ wsX10 ++ wsX30)
def wsX0_fill_r1 : List Cond := [Cond.fieldLink RX0 9 "TandemExchange$BestMatching" "ranks" "[I", Cond.fieldLink RX0 15 "TandemExchange$Circle" "size" "I", Cond.methodLink RX0 21 yX0_rankWith, Cond.instanceMethod yX0_rankWith, Cond.selects RX0 yX0_rankWith yX0_rankWith, Cond.initialized RX0, Cond.code yX0_rankWith cX0_rankWith 7 (some .int), Cond.constant RX0 29 (1000000), Cond.methodLink RX0 34 Lib.Math.max.name, Cond.static Lib.Math.max.name, Cond.initialized "java/lang/Math", Cond.code Lib.Math.max.name Lib.Math.max.code 2 (some .int), Cond.methodLink RX0 25 yX1_fit, Cond.instanceMethod yX1_fit, Cond.selects RX1 yX1_fit yX1_fit, Cond.initialized RX1, Cond.code yX1_fit cX1_fit 3 (some .boolean), Cond.methodLink RX1 62 yX1_lead, Cond.instanceMethod yX1_lead, Cond.selects RX1 yX1_lead yX1_lead, Cond.code yX1_lead cX1_lead 4 (some .int), Cond.fieldLink RX1 11 "TandemExchange$Circle" "members" "[LTandemExchange$Member;", Cond.fieldLink RX1 40 "TandemExchange$Member" "wants" "I", Cond.fieldLink RX1 36 "TandemExchange$Member" "levels" "[I"]
def wsX0_fill_r2 : List Cond := [Cond.methodLink RX0 30 yX1_value, Cond.instanceMethod yX1_value, Cond.selects RX1 yX1_value yX1_value, Cond.code yX1_value cX1_value 3 (some .int), Cond.methodLink RX1 71 yX1_score, Cond.instanceMethod yX1_score, Cond.selects RX1 yX1_score yX1_score, Cond.code yX1_score cX1_score 4 (some .int), Cond.fieldLink RX1 49 "TandemExchange$Member" "missed" "I", Cond.fieldLink RX1 46 "TandemExchange$Member" "credits" "I", Cond.methodLink RX1 66 yJ9_floorDiv_7cf53, Cond.static yJ9_floorDiv_7cf53, Cond.initialized RJ9, Cond.code yJ9_floorDiv_7cf53 cJ9_floorDiv_7cf53 3 (some .int)]
def wsX0_fill : List Cond := .code yX0_fill cX0_fill 5 none :: ((wsX0_fill_r1 ++ wsX0_fill_r2) ++ wsX00 ++ wsX10 ++ wsX30)
def wsX0_rankOfAll : List Cond := .code yX0_rankOfAll cX0_rankOfAll 2 (some .int) :: ([.fieldLink RX0 9 "TandemExchange$BestMatching" "ranks" "[I", .fieldLink RX0 15 "TandemExchange$Circle" "size" "I"] ++ wsX00 ++ wsX10)
def wsX0_rankWithout : List Cond := .code yX0_rankWithout cX0_rankWithout 3 (some .int) :: ([.fieldLink RX0 9 "TandemExchange$BestMatching" "ranks" "[I", .fieldLink RX0 15 "TandemExchange$Circle" "size" "I"] ++ wsX00 ++ wsX10)
def wsX0_pairsOf : List Cond := .code yX0_pairsOf cX0_pairsOf 2 (some .int) :: ([.constant RX0 39 (500000), .constant RX0 29 (1000000), .methodLink RX0 40 yJ9_floorDiv_7cf53, .static yJ9_floorDiv_7cf53, .initialized RJ9, .code yJ9_floorDiv_7cf53 cJ9_floorDiv_7cf53 3 (some .int)])
def wsX0_sumOf : List Cond := .code yX0_sumOf cX0_sumOf 2 (some .int) :: ([.constant RX0 29 (1000000), .methodLink RX0 43 yX0_pairsOf, .instanceMethod yX0_pairsOf, .selects RX0 yX0_pairsOf yX0_pairsOf, .initialized RX0, .code yX0_pairsOf cX0_pairsOf 2 (some .int), .constant RX0 39 (500000), .methodLink RX0 40 yJ9_floorDiv_7cf53, .static yJ9_floorDiv_7cf53, .initialized RJ9, .code yJ9_floorDiv_7cf53 cJ9_floorDiv_7cf53 3 (some .int)])
def wsX3_init : List Cond := .code yX3_init cX3_init 1 none :: ([.methodLink RX3 3 objectInit, .instanceMethod objectInit, .code objectInit ⟨#[0xb1]⟩ 1 none, .arrayClass .int, .fieldLink RX3 9 "TandemExchange$Member" "levels" "[I"] ++ wsX30)
def wsX1_init : List Cond := .code yX1_init cX1_init 2 none :: ([.methodLink RX1 3 objectInit, .instanceMethod objectInit, .code objectInit ⟨#[0xb1]⟩ 1 none, .classLink RX1 9 RX3, .fieldLink RX1 11 "TandemExchange$Circle" "members" "[LTandemExchange$Member;", .instantiable RX3 7, .initialized RX3, .instanceMethod yX3_init, .code yX3_init cX3_init 1 none, .methodLink RX3 3 objectInit, .arrayClass .int, .fieldLink RX3 9 "TandemExchange$Member" "levels" "[I"] ++ wsX10 ++ wsX30)
def wsX3_copyFrom : List Cond := .code yX3_copyFrom cX3_copyFrom 2 none :: ([.fieldLink RX3 9 "TandemExchange$Member" "levels" "[I", .methodLink RX3 15 arraycopyName, .native arraycopyName, .static arraycopyName, .initialized "java/lang/System", .fieldLink RX3 21 "TandemExchange$Member" "wants" "I", .fieldLink RX3 25 "TandemExchange$Member" "progress" "I", .fieldLink RX3 28 "TandemExchange$Member" "credits" "I", .fieldLink RX3 31 "TandemExchange$Member" "missed" "I", .fieldLink RX3 34 "TandemExchange$Member" "partner" "I", .fieldLink RX3 37 "TandemExchange$Member" "missedInRow" "I"] ++ wsX30)
def wsX1_copyFrom : List Cond := .code yX1_copyFrom cX1_copyFrom 3 none :: ([.fieldLink RX1 18 "TandemExchange$Circle" "size" "I", .fieldLink RX1 11 "TandemExchange$Circle" "members" "[LTandemExchange$Member;", .fieldLink RX1 26 "TandemExchange$Circle" "weeks" "I", .methodLink RX1 22 yX3_copyFrom, .instanceMethod yX3_copyFrom, .selects RX3 yX3_copyFrom yX3_copyFrom, .initialized RX3, .code yX3_copyFrom cX3_copyFrom 2 none, .fieldLink RX3 9 "TandemExchange$Member" "levels" "[I", .methodLink RX3 15 arraycopyName, .native arraycopyName, .static arraycopyName, .initialized "java/lang/System", .fieldLink RX3 21 "TandemExchange$Member" "wants" "I", .fieldLink RX3 25 "TandemExchange$Member" "progress" "I", .fieldLink RX3 28 "TandemExchange$Member" "credits" "I", .fieldLink RX3 31 "TandemExchange$Member" "missed" "I", .fieldLink RX3 34 "TandemExchange$Member" "partner" "I", .fieldLink RX3 37 "TandemExchange$Member" "missedInRow" "I"] ++ wsX10 ++ wsX30)
def wsX1_has : List Cond := .code yX1_has cX1_has 2 (some .boolean) :: ([.fieldLink RX1 18 "TandemExchange$Circle" "size" "I"] ++ wsX10)
def wsX1_isFree : List Cond := .code yX1_isFree cX1_isFree 2 (some .boolean) :: ([.fieldLink RX1 11 "TandemExchange$Circle" "members" "[LTandemExchange$Member;", .fieldLink RX1 29 "TandemExchange$Member" "partner" "I"] ++ wsX10 ++ wsX30)
def wsX1_greaterPartner : List Cond := .code yX1_greaterPartner cX1_greaterPartner 3 (some .int) :: ([.fieldLink RX1 11 "TandemExchange$Circle" "members" "[LTandemExchange$Member;", .fieldLink RX1 29 "TandemExchange$Member" "partner" "I", .methodLink RX1 32 yX1_has, .instanceMethod yX1_has, .selects RX1 yX1_has yX1_has, .initialized RX1, .code yX1_has cX1_has 2 (some .boolean), .fieldLink RX1 18 "TandemExchange$Circle" "size" "I"] ++ wsX10 ++ wsX30)
def wsX1_countFittingWith : List Cond := .code yX1_countFittingWith cX1_countFittingWith 4 (some .int) :: ([.fieldLink RX1 18 "TandemExchange$Circle" "size" "I", .methodLink RX1 74 yX1_fit, .instanceMethod yX1_fit, .selects RX1 yX1_fit yX1_fit, .initialized RX1, .code yX1_fit cX1_fit 3 (some .boolean), .methodLink RX1 62 yX1_lead, .instanceMethod yX1_lead, .selects RX1 yX1_lead yX1_lead, .code yX1_lead cX1_lead 4 (some .int), .fieldLink RX1 11 "TandemExchange$Circle" "members" "[LTandemExchange$Member;", .fieldLink RX1 40 "TandemExchange$Member" "wants" "I", .fieldLink RX1 36 "TandemExchange$Member" "levels" "[I"] ++ wsX10 ++ wsX30)
def wsX1_numberOf_r1 : List Cond := [Cond.fieldLink RX1 11 "TandemExchange$Circle" "members" "[LTandemExchange$Member;", Cond.fieldLink RX1 36 "TandemExchange$Member" "levels" "[I", Cond.fieldLink RX1 40 "TandemExchange$Member" "wants" "I", Cond.fieldLink RX1 43 "TandemExchange$Member" "progress" "I", Cond.fieldLink RX1 46 "TandemExchange$Member" "credits" "I", Cond.fieldLink RX1 49 "TandemExchange$Member" "missed" "I", Cond.fieldLink RX1 29 "TandemExchange$Member" "partner" "I", Cond.fieldLink RX1 55 "TandemExchange$Member" "missedInRow" "I", Cond.methodLink RX1 52 yX1_isFree, Cond.instanceMethod yX1_isFree, Cond.selects RX1 yX1_isFree yX1_isFree, Cond.initialized RX1, Cond.code yX1_isFree cX1_isFree 2 (some .boolean), Cond.methodLink RX1 58 yX1_countFittingWith, Cond.instanceMethod yX1_countFittingWith, Cond.selects RX1 yX1_countFittingWith yX1_countFittingWith, Cond.code yX1_countFittingWith cX1_countFittingWith 4 (some .int), Cond.fieldLink RX1 18 "TandemExchange$Circle" "size" "I", Cond.methodLink RX1 74 yX1_fit, Cond.instanceMethod yX1_fit, Cond.selects RX1 yX1_fit yX1_fit, Cond.code yX1_fit cX1_fit 3 (some .boolean), Cond.methodLink RX1 62 yX1_lead, Cond.instanceMethod yX1_lead]
def wsX1_numberOf_r2 : List Cond := [Cond.selects RX1 yX1_lead yX1_lead, Cond.code yX1_lead cX1_lead 4 (some .int)]
def wsX1_numberOf : List Cond := .code yX1_numberOf cX1_numberOf 4 (some .int) :: ((wsX1_numberOf_r1 ++ wsX1_numberOf_r2) ++ wsX10 ++ wsX30)
def wsX1_prefers : List Cond := .code yX1_prefers cX1_prefers 4 (some .boolean) :: ([.fieldLink RX1 11 "TandemExchange$Circle" "members" "[LTandemExchange$Member;", .fieldLink RX1 29 "TandemExchange$Member" "partner" "I", .methodLink RX1 32 yX1_has, .instanceMethod yX1_has, .selects RX1 yX1_has yX1_has, .initialized RX1, .code yX1_has cX1_has 2 (some .boolean), .fieldLink RX1 18 "TandemExchange$Circle" "size" "I", .methodLink RX1 71 yX1_score, .instanceMethod yX1_score, .selects RX1 yX1_score yX1_score, .code yX1_score cX1_score 4 (some .int), .fieldLink RX1 49 "TandemExchange$Member" "missed" "I", .fieldLink RX1 46 "TandemExchange$Member" "credits" "I", .methodLink RX1 62 yX1_lead, .instanceMethod yX1_lead, .selects RX1 yX1_lead yX1_lead, .code yX1_lead cX1_lead 4 (some .int), .fieldLink RX1 40 "TandemExchange$Member" "wants" "I", .fieldLink RX1 36 "TandemExchange$Member" "levels" "[I", .methodLink RX1 66 yJ9_floorDiv_7cf53, .static yJ9_floorDiv_7cf53, .initialized RJ9, .code yJ9_floorDiv_7cf53 cJ9_floorDiv_7cf53 3 (some .int)] ++ wsX10 ++ wsX30)
def wsX1_block_r1 : List Cond := [Cond.fieldLink RX1 11 "TandemExchange$Circle" "members" "[LTandemExchange$Member;", Cond.fieldLink RX1 29 "TandemExchange$Member" "partner" "I", Cond.methodLink RX1 74 yX1_fit, Cond.instanceMethod yX1_fit, Cond.selects RX1 yX1_fit yX1_fit, Cond.initialized RX1, Cond.code yX1_fit cX1_fit 3 (some .boolean), Cond.methodLink RX1 62 yX1_lead, Cond.instanceMethod yX1_lead, Cond.selects RX1 yX1_lead yX1_lead, Cond.code yX1_lead cX1_lead 4 (some .int), Cond.fieldLink RX1 40 "TandemExchange$Member" "wants" "I", Cond.fieldLink RX1 36 "TandemExchange$Member" "levels" "[I", Cond.methodLink RX1 78 yX1_prefers, Cond.instanceMethod yX1_prefers, Cond.selects RX1 yX1_prefers yX1_prefers, Cond.code yX1_prefers cX1_prefers 4 (some .boolean), Cond.methodLink RX1 32 yX1_has, Cond.instanceMethod yX1_has, Cond.selects RX1 yX1_has yX1_has, Cond.code yX1_has cX1_has 2 (some .boolean), Cond.fieldLink RX1 18 "TandemExchange$Circle" "size" "I", Cond.methodLink RX1 71 yX1_score, Cond.instanceMethod yX1_score]
def wsX1_block_r2 : List Cond := [Cond.selects RX1 yX1_score yX1_score, Cond.code yX1_score cX1_score 4 (some .int), Cond.fieldLink RX1 49 "TandemExchange$Member" "missed" "I", Cond.fieldLink RX1 46 "TandemExchange$Member" "credits" "I", Cond.methodLink RX1 66 yJ9_floorDiv_7cf53, Cond.static yJ9_floorDiv_7cf53, Cond.initialized RJ9, Cond.code yJ9_floorDiv_7cf53 cJ9_floorDiv_7cf53 3 (some .int)]
def wsX1_block : List Cond := .code yX1_block cX1_block 3 (some .boolean) :: ((wsX1_block_r1 ++ wsX1_block_r2) ++ wsX10 ++ wsX30)
def wsX1_canBecomePartners : List Cond := .code yX1_canBecomePartners cX1_canBecomePartners 3 (some .boolean) :: ([.methodLink RX1 52 yX1_isFree, .instanceMethod yX1_isFree, .selects RX1 yX1_isFree yX1_isFree, .initialized RX1, .code yX1_isFree cX1_isFree 2 (some .boolean), .fieldLink RX1 11 "TandemExchange$Circle" "members" "[LTandemExchange$Member;", .fieldLink RX1 29 "TandemExchange$Member" "partner" "I", .methodLink RX1 74 yX1_fit, .instanceMethod yX1_fit, .selects RX1 yX1_fit yX1_fit, .code yX1_fit cX1_fit 3 (some .boolean), .methodLink RX1 62 yX1_lead, .instanceMethod yX1_lead, .selects RX1 yX1_lead yX1_lead, .code yX1_lead cX1_lead 4 (some .int), .fieldLink RX1 40 "TandemExchange$Member" "wants" "I", .fieldLink RX1 36 "TandemExchange$Member" "levels" "[I"] ++ wsX10 ++ wsX30)
def wsX1_countPairs : List Cond := .code yX1_countPairs cX1_countPairs 3 (some .int) :: ([.fieldLink RX1 18 "TandemExchange$Circle" "size" "I", .methodLink RX1 81 yX1_greaterPartner, .instanceMethod yX1_greaterPartner, .selects RX1 yX1_greaterPartner yX1_greaterPartner, .initialized RX1, .code yX1_greaterPartner cX1_greaterPartner 3 (some .int), .fieldLink RX1 11 "TandemExchange$Circle" "members" "[LTandemExchange$Member;", .fieldLink RX1 29 "TandemExchange$Member" "partner" "I", .methodLink RX1 32 yX1_has, .instanceMethod yX1_has, .selects RX1 yX1_has yX1_has, .code yX1_has cX1_has 2 (some .boolean)] ++ wsX10 ++ wsX30)
def wsX1_sumOfValues_r1 : List Cond := [Cond.fieldLink RX1 18 "TandemExchange$Circle" "size" "I", Cond.methodLink RX1 81 yX1_greaterPartner, Cond.instanceMethod yX1_greaterPartner, Cond.selects RX1 yX1_greaterPartner yX1_greaterPartner, Cond.initialized RX1, Cond.code yX1_greaterPartner cX1_greaterPartner 3 (some .int), Cond.fieldLink RX1 11 "TandemExchange$Circle" "members" "[LTandemExchange$Member;", Cond.fieldLink RX1 29 "TandemExchange$Member" "partner" "I", Cond.methodLink RX1 32 yX1_has, Cond.instanceMethod yX1_has, Cond.selects RX1 yX1_has yX1_has, Cond.code yX1_has cX1_has 2 (some .boolean), Cond.methodLink RX1 84 yX1_value, Cond.instanceMethod yX1_value, Cond.selects RX1 yX1_value yX1_value, Cond.code yX1_value cX1_value 3 (some .int), Cond.methodLink RX1 71 yX1_score, Cond.instanceMethod yX1_score, Cond.selects RX1 yX1_score yX1_score, Cond.code yX1_score cX1_score 4 (some .int), Cond.fieldLink RX1 49 "TandemExchange$Member" "missed" "I", Cond.fieldLink RX1 46 "TandemExchange$Member" "credits" "I", Cond.methodLink RX1 62 yX1_lead, Cond.instanceMethod yX1_lead]
def wsX1_sumOfValues_r2 : List Cond := [Cond.selects RX1 yX1_lead yX1_lead, Cond.code yX1_lead cX1_lead 4 (some .int), Cond.fieldLink RX1 40 "TandemExchange$Member" "wants" "I", Cond.fieldLink RX1 36 "TandemExchange$Member" "levels" "[I", Cond.methodLink RX1 66 yJ9_floorDiv_7cf53, Cond.static yJ9_floorDiv_7cf53, Cond.initialized RJ9, Cond.code yJ9_floorDiv_7cf53 cJ9_floorDiv_7cf53 3 (some .int)]
def wsX1_sumOfValues : List Cond := .code yX1_sumOfValues cX1_sumOfValues 4 (some .int) :: ((wsX1_sumOfValues_r1 ++ wsX1_sumOfValues_r2) ++ wsX10 ++ wsX30)
def wsX1_sumOfCredits : List Cond := .code yX1_sumOfCredits cX1_sumOfCredits 3 (some .int) :: ([.fieldLink RX1 18 "TandemExchange$Circle" "size" "I", .fieldLink RX1 11 "TandemExchange$Circle" "members" "[LTandemExchange$Member;", .fieldLink RX1 46 "TandemExchange$Member" "credits" "I"] ++ wsX10 ++ wsX30)
def wsX1_countBlocking_r1 : List Cond := [Cond.fieldLink RX1 18 "TandemExchange$Circle" "size" "I", Cond.methodLink RX1 87 yX1_block, Cond.instanceMethod yX1_block, Cond.selects RX1 yX1_block yX1_block, Cond.initialized RX1, Cond.code yX1_block cX1_block 3 (some .boolean), Cond.fieldLink RX1 11 "TandemExchange$Circle" "members" "[LTandemExchange$Member;", Cond.fieldLink RX1 29 "TandemExchange$Member" "partner" "I", Cond.methodLink RX1 74 yX1_fit, Cond.instanceMethod yX1_fit, Cond.selects RX1 yX1_fit yX1_fit, Cond.code yX1_fit cX1_fit 3 (some .boolean), Cond.methodLink RX1 62 yX1_lead, Cond.instanceMethod yX1_lead, Cond.selects RX1 yX1_lead yX1_lead, Cond.code yX1_lead cX1_lead 4 (some .int), Cond.fieldLink RX1 40 "TandemExchange$Member" "wants" "I", Cond.fieldLink RX1 36 "TandemExchange$Member" "levels" "[I", Cond.methodLink RX1 78 yX1_prefers, Cond.instanceMethod yX1_prefers, Cond.selects RX1 yX1_prefers yX1_prefers, Cond.code yX1_prefers cX1_prefers 4 (some .boolean), Cond.methodLink RX1 32 yX1_has, Cond.instanceMethod yX1_has]
def wsX1_countBlocking_r2 : List Cond := [Cond.selects RX1 yX1_has yX1_has, Cond.code yX1_has cX1_has 2 (some .boolean), Cond.methodLink RX1 71 yX1_score, Cond.instanceMethod yX1_score, Cond.selects RX1 yX1_score yX1_score, Cond.code yX1_score cX1_score 4 (some .int), Cond.fieldLink RX1 49 "TandemExchange$Member" "missed" "I", Cond.fieldLink RX1 46 "TandemExchange$Member" "credits" "I", Cond.methodLink RX1 66 yJ9_floorDiv_7cf53, Cond.static yJ9_floorDiv_7cf53, Cond.initialized RJ9, Cond.code yJ9_floorDiv_7cf53 cJ9_floorDiv_7cf53 3 (some .int)]
def wsX1_countBlocking : List Cond := .code yX1_countBlocking cX1_countBlocking 4 (some .int) :: ((wsX1_countBlocking_r1 ++ wsX1_countBlocking_r2) ++ wsX10 ++ wsX30)
def wsX1_countFitting : List Cond := .code yX1_countFitting cX1_countFitting 3 (some .int) :: ([.fieldLink RX1 18 "TandemExchange$Circle" "size" "I", .methodLink RX1 58 yX1_countFittingWith, .instanceMethod yX1_countFittingWith, .selects RX1 yX1_countFittingWith yX1_countFittingWith, .initialized RX1, .code yX1_countFittingWith cX1_countFittingWith 4 (some .int), .methodLink RX1 74 yX1_fit, .instanceMethod yX1_fit, .selects RX1 yX1_fit yX1_fit, .code yX1_fit cX1_fit 3 (some .boolean), .methodLink RX1 62 yX1_lead, .instanceMethod yX1_lead, .selects RX1 yX1_lead yX1_lead, .code yX1_lead cX1_lead 4 (some .int), .fieldLink RX1 11 "TandemExchange$Circle" "members" "[LTandemExchange$Member;", .fieldLink RX1 40 "TandemExchange$Member" "wants" "I", .fieldLink RX1 36 "TandemExchange$Member" "levels" "[I"] ++ wsX10 ++ wsX30)
def wsX3_start : List Cond := .code yX3_start cX3_start 6 none :: ([.fieldLink RX3 9 "TandemExchange$Member" "levels" "[I", .fieldLink RX3 21 "TandemExchange$Member" "wants" "I", .fieldLink RX3 25 "TandemExchange$Member" "progress" "I", .fieldLink RX3 28 "TandemExchange$Member" "credits" "I", .fieldLink RX3 31 "TandemExchange$Member" "missed" "I", .fieldLink RX3 34 "TandemExchange$Member" "partner" "I", .fieldLink RX3 37 "TandemExchange$Member" "missedInRow" "I"] ++ wsX30)
def wsX1_add : List Cond := .code yX1_add cX1_add 4 none :: ([.fieldLink RX1 18 "TandemExchange$Circle" "size" "I", .fieldLink RX1 11 "TandemExchange$Circle" "members" "[LTandemExchange$Member;", .methodLink RX1 90 yX3_start, .instanceMethod yX3_start, .selects RX3 yX3_start yX3_start, .initialized RX3, .code yX3_start cX3_start 6 none, .fieldLink RX3 9 "TandemExchange$Member" "levels" "[I", .fieldLink RX3 21 "TandemExchange$Member" "wants" "I", .fieldLink RX3 25 "TandemExchange$Member" "progress" "I", .fieldLink RX3 28 "TandemExchange$Member" "credits" "I", .fieldLink RX3 31 "TandemExchange$Member" "missed" "I", .fieldLink RX3 34 "TandemExchange$Member" "partner" "I", .fieldLink RX3 37 "TandemExchange$Member" "missedInRow" "I"] ++ wsX10 ++ wsX30)
def wsX1_separate : List Cond := .code yX1_separate cX1_separate 3 none :: ([.fieldLink RX1 11 "TandemExchange$Circle" "members" "[LTandemExchange$Member;", .fieldLink RX1 29 "TandemExchange$Member" "partner" "I", .methodLink RX1 32 yX1_has, .instanceMethod yX1_has, .selects RX1 yX1_has yX1_has, .initialized RX1, .code yX1_has cX1_has 2 (some .boolean), .fieldLink RX1 18 "TandemExchange$Circle" "size" "I"] ++ wsX10 ++ wsX30)
def wsX1_remove_r1 : List Cond := [Cond.fieldLink RX1 18 "TandemExchange$Circle" "size" "I", Cond.fieldLink RX1 11 "TandemExchange$Circle" "members" "[LTandemExchange$Member;", Cond.fieldLink RX1 29 "TandemExchange$Member" "partner" "I", Cond.methodLink RX1 94 yX1_separate, Cond.instanceMethod yX1_separate, Cond.selects RX1 yX1_separate yX1_separate, Cond.initialized RX1, Cond.code yX1_separate cX1_separate 3 none, Cond.methodLink RX1 32 yX1_has, Cond.instanceMethod yX1_has, Cond.selects RX1 yX1_has yX1_has, Cond.code yX1_has cX1_has 2 (some .boolean), Cond.methodLink RX1 22 yX3_copyFrom, Cond.instanceMethod yX3_copyFrom, Cond.selects RX3 yX3_copyFrom yX3_copyFrom, Cond.initialized RX3, Cond.code yX3_copyFrom cX3_copyFrom 2 none, Cond.fieldLink RX3 9 "TandemExchange$Member" "levels" "[I", Cond.methodLink RX3 15 arraycopyName, Cond.native arraycopyName, Cond.static arraycopyName, Cond.initialized "java/lang/System", Cond.fieldLink RX3 21 "TandemExchange$Member" "wants" "I", Cond.fieldLink RX3 25 "TandemExchange$Member" "progress" "I"]
def wsX1_remove_r2 : List Cond := [Cond.fieldLink RX3 28 "TandemExchange$Member" "credits" "I", Cond.fieldLink RX3 31 "TandemExchange$Member" "missed" "I", Cond.fieldLink RX3 34 "TandemExchange$Member" "partner" "I", Cond.fieldLink RX3 37 "TandemExchange$Member" "missedInRow" "I"]
def wsX1_remove : List Cond := .code yX1_remove cX1_remove 3 none :: ((wsX1_remove_r1 ++ wsX1_remove_r2) ++ wsX10 ++ wsX30)
def wsX1_separateIfUnfit : List Cond := .code yX1_separateIfUnfit cX1_separateIfUnfit 3 none :: ([.fieldLink RX1 11 "TandemExchange$Circle" "members" "[LTandemExchange$Member;", .fieldLink RX1 29 "TandemExchange$Member" "partner" "I", .methodLink RX1 32 yX1_has, .instanceMethod yX1_has, .selects RX1 yX1_has yX1_has, .initialized RX1, .code yX1_has cX1_has 2 (some .boolean), .fieldLink RX1 18 "TandemExchange$Circle" "size" "I", .methodLink RX1 74 yX1_fit, .instanceMethod yX1_fit, .selects RX1 yX1_fit yX1_fit, .code yX1_fit cX1_fit 3 (some .boolean), .methodLink RX1 62 yX1_lead, .instanceMethod yX1_lead, .selects RX1 yX1_lead yX1_lead, .code yX1_lead cX1_lead 4 (some .int), .fieldLink RX1 40 "TandemExchange$Member" "wants" "I", .fieldLink RX1 36 "TandemExchange$Member" "levels" "[I", .methodLink RX1 94 yX1_separate, .instanceMethod yX1_separate, .selects RX1 yX1_separate yX1_separate, .code yX1_separate cX1_separate 3 none] ++ wsX10 ++ wsX30)
def wsX1_changeWish_r1 : List Cond := [Cond.fieldLink RX1 11 "TandemExchange$Circle" "members" "[LTandemExchange$Member;", Cond.fieldLink RX1 40 "TandemExchange$Member" "wants" "I", Cond.fieldLink RX1 43 "TandemExchange$Member" "progress" "I", Cond.methodLink RX1 98 yX1_separateIfUnfit, Cond.instanceMethod yX1_separateIfUnfit, Cond.selects RX1 yX1_separateIfUnfit yX1_separateIfUnfit, Cond.initialized RX1, Cond.code yX1_separateIfUnfit cX1_separateIfUnfit 3 none, Cond.fieldLink RX1 29 "TandemExchange$Member" "partner" "I", Cond.methodLink RX1 32 yX1_has, Cond.instanceMethod yX1_has, Cond.selects RX1 yX1_has yX1_has, Cond.code yX1_has cX1_has 2 (some .boolean), Cond.fieldLink RX1 18 "TandemExchange$Circle" "size" "I", Cond.methodLink RX1 74 yX1_fit, Cond.instanceMethod yX1_fit, Cond.selects RX1 yX1_fit yX1_fit, Cond.code yX1_fit cX1_fit 3 (some .boolean), Cond.methodLink RX1 62 yX1_lead, Cond.instanceMethod yX1_lead, Cond.selects RX1 yX1_lead yX1_lead, Cond.code yX1_lead cX1_lead 4 (some .int), Cond.fieldLink RX1 36 "TandemExchange$Member" "levels" "[I", Cond.methodLink RX1 94 yX1_separate]
def wsX1_changeWish_r2 : List Cond := [Cond.instanceMethod yX1_separate, Cond.selects RX1 yX1_separate yX1_separate, Cond.code yX1_separate cX1_separate 3 none]
def wsX1_changeWish : List Cond := .code yX1_changeWish cX1_changeWish 3 none :: ((wsX1_changeWish_r1 ++ wsX1_changeWish_r2) ++ wsX10 ++ wsX30)
def wsX1_grade_r1 : List Cond := [Cond.fieldLink RX1 11 "TandemExchange$Circle" "members" "[LTandemExchange$Member;", Cond.fieldLink RX1 36 "TandemExchange$Member" "levels" "[I", Cond.fieldLink RX1 40 "TandemExchange$Member" "wants" "I", Cond.fieldLink RX1 43 "TandemExchange$Member" "progress" "I", Cond.methodLink RX1 98 yX1_separateIfUnfit, Cond.instanceMethod yX1_separateIfUnfit, Cond.selects RX1 yX1_separateIfUnfit yX1_separateIfUnfit, Cond.initialized RX1, Cond.code yX1_separateIfUnfit cX1_separateIfUnfit 3 none, Cond.fieldLink RX1 29 "TandemExchange$Member" "partner" "I", Cond.methodLink RX1 32 yX1_has, Cond.instanceMethod yX1_has, Cond.selects RX1 yX1_has yX1_has, Cond.code yX1_has cX1_has 2 (some .boolean), Cond.fieldLink RX1 18 "TandemExchange$Circle" "size" "I", Cond.methodLink RX1 74 yX1_fit, Cond.instanceMethod yX1_fit, Cond.selects RX1 yX1_fit yX1_fit, Cond.code yX1_fit cX1_fit 3 (some .boolean), Cond.methodLink RX1 62 yX1_lead, Cond.instanceMethod yX1_lead, Cond.selects RX1 yX1_lead yX1_lead, Cond.code yX1_lead cX1_lead 4 (some .int), Cond.methodLink RX1 94 yX1_separate]
def wsX1_grade_r2 : List Cond := [Cond.instanceMethod yX1_separate, Cond.selects RX1 yX1_separate yX1_separate, Cond.code yX1_separate cX1_separate 3 none]
def wsX1_grade : List Cond := .code yX1_grade cX1_grade 5 none :: ((wsX1_grade_r1 ++ wsX1_grade_r2) ++ wsX10 ++ wsX30)
def wsX1_unite : List Cond := .code yX1_unite cX1_unite 3 none :: ([.fieldLink RX1 11 "TandemExchange$Circle" "members" "[LTandemExchange$Member;", .fieldLink RX1 29 "TandemExchange$Member" "partner" "I", .fieldLink RX1 55 "TandemExchange$Member" "missedInRow" "I"] ++ wsX10 ++ wsX30)
def wsX1_uniteBestFreePair_r1 : List Cond := [Cond.fieldLink RX1 18 "TandemExchange$Circle" "size" "I", Cond.methodLink RX1 105 yX1_canBecomePartners, Cond.instanceMethod yX1_canBecomePartners, Cond.selects RX1 yX1_canBecomePartners yX1_canBecomePartners, Cond.initialized RX1, Cond.code yX1_canBecomePartners cX1_canBecomePartners 3 (some .boolean), Cond.methodLink RX1 52 yX1_isFree, Cond.instanceMethod yX1_isFree, Cond.selects RX1 yX1_isFree yX1_isFree, Cond.code yX1_isFree cX1_isFree 2 (some .boolean), Cond.fieldLink RX1 11 "TandemExchange$Circle" "members" "[LTandemExchange$Member;", Cond.fieldLink RX1 29 "TandemExchange$Member" "partner" "I", Cond.methodLink RX1 74 yX1_fit, Cond.instanceMethod yX1_fit, Cond.selects RX1 yX1_fit yX1_fit, Cond.code yX1_fit cX1_fit 3 (some .boolean), Cond.methodLink RX1 62 yX1_lead, Cond.instanceMethod yX1_lead, Cond.selects RX1 yX1_lead yX1_lead, Cond.code yX1_lead cX1_lead 4 (some .int), Cond.fieldLink RX1 40 "TandemExchange$Member" "wants" "I", Cond.fieldLink RX1 36 "TandemExchange$Member" "levels" "[I", Cond.methodLink RX1 84 yX1_value, Cond.instanceMethod yX1_value]
def wsX1_uniteBestFreePair_r2 : List Cond := [Cond.selects RX1 yX1_value yX1_value, Cond.code yX1_value cX1_value 3 (some .int), Cond.methodLink RX1 71 yX1_score, Cond.instanceMethod yX1_score, Cond.selects RX1 yX1_score yX1_score, Cond.code yX1_score cX1_score 4 (some .int), Cond.fieldLink RX1 49 "TandemExchange$Member" "missed" "I", Cond.fieldLink RX1 46 "TandemExchange$Member" "credits" "I", Cond.methodLink RX1 66 yJ9_floorDiv_7cf53, Cond.static yJ9_floorDiv_7cf53, Cond.initialized RJ9, Cond.code yJ9_floorDiv_7cf53 cJ9_floorDiv_7cf53 3 (some .int), Cond.methodLink RX1 32 yX1_has, Cond.instanceMethod yX1_has, Cond.selects RX1 yX1_has yX1_has, Cond.code yX1_has cX1_has 2 (some .boolean), Cond.methodLink RX1 108 yX1_unite, Cond.instanceMethod yX1_unite, Cond.selects RX1 yX1_unite yX1_unite, Cond.code yX1_unite cX1_unite 3 none, Cond.fieldLink RX1 55 "TandemExchange$Member" "missedInRow" "I"]
def wsX1_uniteBestFreePair : List Cond := .code yX1_uniteBestFreePair cX1_uniteBestFreePair 6 (some .boolean) :: ((wsX1_uniteBestFreePair_r1 ++ wsX1_uniteBestFreePair_r2) ++ wsX10 ++ wsX30)
def wsX1_matchFree_r1 : List Cond := [Cond.methodLink RX1 101 yX1_uniteBestFreePair, Cond.instanceMethod yX1_uniteBestFreePair, Cond.selects RX1 yX1_uniteBestFreePair yX1_uniteBestFreePair, Cond.initialized RX1, Cond.code yX1_uniteBestFreePair cX1_uniteBestFreePair 6 (some .boolean), Cond.fieldLink RX1 18 "TandemExchange$Circle" "size" "I", Cond.methodLink RX1 105 yX1_canBecomePartners, Cond.instanceMethod yX1_canBecomePartners, Cond.selects RX1 yX1_canBecomePartners yX1_canBecomePartners, Cond.code yX1_canBecomePartners cX1_canBecomePartners 3 (some .boolean), Cond.methodLink RX1 52 yX1_isFree, Cond.instanceMethod yX1_isFree, Cond.selects RX1 yX1_isFree yX1_isFree, Cond.code yX1_isFree cX1_isFree 2 (some .boolean), Cond.fieldLink RX1 11 "TandemExchange$Circle" "members" "[LTandemExchange$Member;", Cond.fieldLink RX1 29 "TandemExchange$Member" "partner" "I", Cond.methodLink RX1 74 yX1_fit, Cond.instanceMethod yX1_fit, Cond.selects RX1 yX1_fit yX1_fit, Cond.code yX1_fit cX1_fit 3 (some .boolean), Cond.methodLink RX1 62 yX1_lead, Cond.instanceMethod yX1_lead, Cond.selects RX1 yX1_lead yX1_lead, Cond.code yX1_lead cX1_lead 4 (some .int)]
def wsX1_matchFree_r2 : List Cond := [Cond.fieldLink RX1 40 "TandemExchange$Member" "wants" "I", Cond.fieldLink RX1 36 "TandemExchange$Member" "levels" "[I", Cond.methodLink RX1 84 yX1_value, Cond.instanceMethod yX1_value, Cond.selects RX1 yX1_value yX1_value, Cond.code yX1_value cX1_value 3 (some .int), Cond.methodLink RX1 71 yX1_score, Cond.instanceMethod yX1_score, Cond.selects RX1 yX1_score yX1_score, Cond.code yX1_score cX1_score 4 (some .int), Cond.fieldLink RX1 49 "TandemExchange$Member" "missed" "I", Cond.fieldLink RX1 46 "TandemExchange$Member" "credits" "I", Cond.methodLink RX1 66 yJ9_floorDiv_7cf53, Cond.static yJ9_floorDiv_7cf53, Cond.initialized RJ9, Cond.code yJ9_floorDiv_7cf53 cJ9_floorDiv_7cf53 3 (some .int), Cond.methodLink RX1 32 yX1_has, Cond.instanceMethod yX1_has, Cond.selects RX1 yX1_has yX1_has, Cond.code yX1_has cX1_has 2 (some .boolean), Cond.methodLink RX1 108 yX1_unite, Cond.instanceMethod yX1_unite, Cond.selects RX1 yX1_unite yX1_unite, Cond.code yX1_unite cX1_unite 3 none]
def wsX1_matchFree_r3 : List Cond := [Cond.fieldLink RX1 55 "TandemExchange$Member" "missedInRow" "I"]
def wsX1_matchFree : List Cond := .code yX1_matchFree cX1_matchFree 2 (some .int) :: ((wsX1_matchFree_r1 ++ (wsX1_matchFree_r2 ++ wsX1_matchFree_r3)) ++ wsX10 ++ wsX30)
def wsX1_uniteFirstBlockingPair_r1 : List Cond := [Cond.fieldLink RX1 18 "TandemExchange$Circle" "size" "I", Cond.methodLink RX1 87 yX1_block, Cond.instanceMethod yX1_block, Cond.selects RX1 yX1_block yX1_block, Cond.initialized RX1, Cond.code yX1_block cX1_block 3 (some .boolean), Cond.fieldLink RX1 11 "TandemExchange$Circle" "members" "[LTandemExchange$Member;", Cond.fieldLink RX1 29 "TandemExchange$Member" "partner" "I", Cond.methodLink RX1 74 yX1_fit, Cond.instanceMethod yX1_fit, Cond.selects RX1 yX1_fit yX1_fit, Cond.code yX1_fit cX1_fit 3 (some .boolean), Cond.methodLink RX1 62 yX1_lead, Cond.instanceMethod yX1_lead, Cond.selects RX1 yX1_lead yX1_lead, Cond.code yX1_lead cX1_lead 4 (some .int), Cond.fieldLink RX1 40 "TandemExchange$Member" "wants" "I", Cond.fieldLink RX1 36 "TandemExchange$Member" "levels" "[I", Cond.methodLink RX1 78 yX1_prefers, Cond.instanceMethod yX1_prefers, Cond.selects RX1 yX1_prefers yX1_prefers, Cond.code yX1_prefers cX1_prefers 4 (some .boolean), Cond.methodLink RX1 32 yX1_has, Cond.instanceMethod yX1_has]
def wsX1_uniteFirstBlockingPair_r2 : List Cond := [Cond.selects RX1 yX1_has yX1_has, Cond.code yX1_has cX1_has 2 (some .boolean), Cond.methodLink RX1 71 yX1_score, Cond.instanceMethod yX1_score, Cond.selects RX1 yX1_score yX1_score, Cond.code yX1_score cX1_score 4 (some .int), Cond.fieldLink RX1 49 "TandemExchange$Member" "missed" "I", Cond.fieldLink RX1 46 "TandemExchange$Member" "credits" "I", Cond.methodLink RX1 66 yJ9_floorDiv_7cf53, Cond.static yJ9_floorDiv_7cf53, Cond.initialized RJ9, Cond.code yJ9_floorDiv_7cf53 cJ9_floorDiv_7cf53 3 (some .int), Cond.methodLink RX1 94 yX1_separate, Cond.instanceMethod yX1_separate, Cond.selects RX1 yX1_separate yX1_separate, Cond.code yX1_separate cX1_separate 3 none, Cond.methodLink RX1 108 yX1_unite, Cond.instanceMethod yX1_unite, Cond.selects RX1 yX1_unite yX1_unite, Cond.code yX1_unite cX1_unite 3 none, Cond.fieldLink RX1 55 "TandemExchange$Member" "missedInRow" "I"]
def wsX1_uniteFirstBlockingPair : List Cond := .code yX1_uniteFirstBlockingPair cX1_uniteFirstBlockingPair 3 (some .boolean) :: ((wsX1_uniteFirstBlockingPair_r1 ++ wsX1_uniteFirstBlockingPair_r2) ++ wsX10 ++ wsX30)
def wsX1_settleBy_r1 : List Cond := [Cond.methodLink RX1 112 yX1_uniteFirstBlockingPair, Cond.instanceMethod yX1_uniteFirstBlockingPair, Cond.selects RX1 yX1_uniteFirstBlockingPair yX1_uniteFirstBlockingPair, Cond.initialized RX1, Cond.code yX1_uniteFirstBlockingPair cX1_uniteFirstBlockingPair 3 (some .boolean), Cond.fieldLink RX1 18 "TandemExchange$Circle" "size" "I", Cond.methodLink RX1 87 yX1_block, Cond.instanceMethod yX1_block, Cond.selects RX1 yX1_block yX1_block, Cond.code yX1_block cX1_block 3 (some .boolean), Cond.fieldLink RX1 11 "TandemExchange$Circle" "members" "[LTandemExchange$Member;", Cond.fieldLink RX1 29 "TandemExchange$Member" "partner" "I", Cond.methodLink RX1 74 yX1_fit, Cond.instanceMethod yX1_fit, Cond.selects RX1 yX1_fit yX1_fit, Cond.code yX1_fit cX1_fit 3 (some .boolean), Cond.methodLink RX1 62 yX1_lead, Cond.instanceMethod yX1_lead, Cond.selects RX1 yX1_lead yX1_lead, Cond.code yX1_lead cX1_lead 4 (some .int), Cond.fieldLink RX1 40 "TandemExchange$Member" "wants" "I", Cond.fieldLink RX1 36 "TandemExchange$Member" "levels" "[I", Cond.methodLink RX1 78 yX1_prefers, Cond.instanceMethod yX1_prefers]
def wsX1_settleBy_r2 : List Cond := [Cond.selects RX1 yX1_prefers yX1_prefers, Cond.code yX1_prefers cX1_prefers 4 (some .boolean), Cond.methodLink RX1 32 yX1_has, Cond.instanceMethod yX1_has, Cond.selects RX1 yX1_has yX1_has, Cond.code yX1_has cX1_has 2 (some .boolean), Cond.methodLink RX1 71 yX1_score, Cond.instanceMethod yX1_score, Cond.selects RX1 yX1_score yX1_score, Cond.code yX1_score cX1_score 4 (some .int), Cond.fieldLink RX1 49 "TandemExchange$Member" "missed" "I", Cond.fieldLink RX1 46 "TandemExchange$Member" "credits" "I", Cond.methodLink RX1 66 yJ9_floorDiv_7cf53, Cond.static yJ9_floorDiv_7cf53, Cond.initialized RJ9, Cond.code yJ9_floorDiv_7cf53 cJ9_floorDiv_7cf53 3 (some .int), Cond.methodLink RX1 94 yX1_separate, Cond.instanceMethod yX1_separate, Cond.selects RX1 yX1_separate yX1_separate, Cond.code yX1_separate cX1_separate 3 none, Cond.methodLink RX1 108 yX1_unite, Cond.instanceMethod yX1_unite, Cond.selects RX1 yX1_unite yX1_unite, Cond.code yX1_unite cX1_unite 3 none]
def wsX1_settleBy_r3 : List Cond := [Cond.fieldLink RX1 55 "TandemExchange$Member" "missedInRow" "I"]
def wsX1_settleBy : List Cond := .code yX1_settleBy cX1_settleBy 3 (some .int) :: ((wsX1_settleBy_r1 ++ (wsX1_settleBy_r2 ++ wsX1_settleBy_r3)) ++ wsX10 ++ wsX30)
def wsX3_gainCredits : List Cond := .code yX3_gainCredits cX3_gainCredits 2 none :: ([.fieldLink RX3 28 "TandemExchange$Member" "credits" "I", .methodLink RX3 40 Lib.Math.min.name, .static Lib.Math.min.name, .initialized "java/lang/Math", .code Lib.Math.min.name Lib.Math.min.code 2 (some .int), .methodLink RX3 46 Lib.Math.max.name, .static Lib.Math.max.name, .code Lib.Math.max.name Lib.Math.max.code 2 (some .int)] ++ wsX30)
def wsX3_failToMeet : List Cond := .code yX3_failToMeet cX3_failToMeet 2 none :: ([.fieldLink RX3 37 "TandemExchange$Member" "missedInRow" "I", .fieldLink RX3 31 "TandemExchange$Member" "missed" "I", .methodLink RX3 49 yX3_gainCredits, .instanceMethod yX3_gainCredits, .selects RX3 yX3_gainCredits yX3_gainCredits, .initialized RX3, .code yX3_gainCredits cX3_gainCredits 2 none, .fieldLink RX3 28 "TandemExchange$Member" "credits" "I", .methodLink RX3 40 Lib.Math.min.name, .static Lib.Math.min.name, .initialized "java/lang/Math", .code Lib.Math.min.name Lib.Math.min.code 2 (some .int), .methodLink RX3 46 Lib.Math.max.name, .static Lib.Math.max.name, .code Lib.Math.max.name Lib.Math.max.code 2 (some .int)] ++ wsX30)
def wsX1_pointsOfMeeting : List Cond := .code yX1_pointsOfMeeting cX1_pointsOfMeeting 3 (some .int) :: ([.methodLink RX1 128 Lib.Math.max.name, .static Lib.Math.max.name, .initialized "java/lang/Math", .code Lib.Math.max.name Lib.Math.max.code 2 (some .int), .methodLink RX1 62 yX1_lead, .instanceMethod yX1_lead, .selects RX1 yX1_lead yX1_lead, .initialized RX1, .code yX1_lead cX1_lead 4 (some .int), .fieldLink RX1 11 "TandemExchange$Circle" "members" "[LTandemExchange$Member;", .fieldLink RX1 40 "TandemExchange$Member" "wants" "I", .fieldLink RX1 36 "TandemExchange$Member" "levels" "[I"] ++ wsX10 ++ wsX30)
def wsX3_learn : List Cond := .code yX3_learn cX3_learn 2 none :: ([.fieldLink RX3 25 "TandemExchange$Member" "progress" "I", .fieldLink RX3 9 "TandemExchange$Member" "levels" "[I", .fieldLink RX3 21 "TandemExchange$Member" "wants" "I"] ++ wsX30)
def wsX3_meet : List Cond := .code yX3_meet cX3_meet 2 none :: ([.fieldLink RX3 37 "TandemExchange$Member" "missedInRow" "I", .methodLink RX3 49 yX3_gainCredits, .instanceMethod yX3_gainCredits, .selects RX3 yX3_gainCredits yX3_gainCredits, .initialized RX3, .code yX3_gainCredits cX3_gainCredits 2 none, .fieldLink RX3 28 "TandemExchange$Member" "credits" "I", .methodLink RX3 40 Lib.Math.min.name, .static Lib.Math.min.name, .initialized "java/lang/Math", .code Lib.Math.min.name Lib.Math.min.code 2 (some .int), .methodLink RX3 46 Lib.Math.max.name, .static Lib.Math.max.name, .code Lib.Math.max.name Lib.Math.max.code 2 (some .int), .methodLink RX3 53 yX3_learn, .instanceMethod yX3_learn, .selects RX3 yX3_learn yX3_learn, .code yX3_learn cX3_learn 2 none, .fieldLink RX3 25 "TandemExchange$Member" "progress" "I", .fieldLink RX3 9 "TandemExchange$Member" "levels" "[I", .fieldLink RX3 21 "TandemExchange$Member" "wants" "I"] ++ wsX30)
def wsX1_passWeekOfPair_r1 : List Cond := [Cond.fieldLink RX1 11 "TandemExchange$Circle" "members" "[LTandemExchange$Member;", Cond.methodLink RX1 118 yX3_failToMeet, Cond.instanceMethod yX3_failToMeet, Cond.selects RX3 yX3_failToMeet yX3_failToMeet, Cond.initialized RX3, Cond.code yX3_failToMeet cX3_failToMeet 2 none, Cond.fieldLink RX3 37 "TandemExchange$Member" "missedInRow" "I", Cond.fieldLink RX3 31 "TandemExchange$Member" "missed" "I", Cond.methodLink RX3 49 yX3_gainCredits, Cond.instanceMethod yX3_gainCredits, Cond.selects RX3 yX3_gainCredits yX3_gainCredits, Cond.code yX3_gainCredits cX3_gainCredits 2 none, Cond.fieldLink RX3 28 "TandemExchange$Member" "credits" "I", Cond.methodLink RX3 40 Lib.Math.min.name, Cond.static Lib.Math.min.name, Cond.initialized "java/lang/Math", Cond.code Lib.Math.min.name Lib.Math.min.code 2 (some .int), Cond.methodLink RX3 46 Lib.Math.max.name, Cond.static Lib.Math.max.name, Cond.code Lib.Math.max.name Lib.Math.max.code 2 (some .int), Cond.methodLink RX1 122 yX1_pointsOfMeeting, Cond.instanceMethod yX1_pointsOfMeeting, Cond.selects RX1 yX1_pointsOfMeeting yX1_pointsOfMeeting, Cond.initialized RX1]
def wsX1_passWeekOfPair_r2 : List Cond := [Cond.code yX1_pointsOfMeeting cX1_pointsOfMeeting 3 (some .int), Cond.methodLink RX1 128 Lib.Math.max.name, Cond.methodLink RX1 62 yX1_lead, Cond.instanceMethod yX1_lead, Cond.selects RX1 yX1_lead yX1_lead, Cond.code yX1_lead cX1_lead 4 (some .int), Cond.fieldLink RX1 40 "TandemExchange$Member" "wants" "I", Cond.fieldLink RX1 36 "TandemExchange$Member" "levels" "[I", Cond.methodLink RX1 125 yX3_meet, Cond.instanceMethod yX3_meet, Cond.selects RX3 yX3_meet yX3_meet, Cond.code yX3_meet cX3_meet 2 none, Cond.methodLink RX3 53 yX3_learn, Cond.instanceMethod yX3_learn, Cond.selects RX3 yX3_learn yX3_learn, Cond.code yX3_learn cX3_learn 2 none, Cond.fieldLink RX3 25 "TandemExchange$Member" "progress" "I", Cond.fieldLink RX3 9 "TandemExchange$Member" "levels" "[I", Cond.fieldLink RX3 21 "TandemExchange$Member" "wants" "I"]
def wsX1_passWeekOfPair : List Cond := .code yX1_passWeekOfPair cX1_passWeekOfPair 8 none :: ((wsX1_passWeekOfPair_r1 ++ wsX1_passWeekOfPair_r2) ++ wsX10 ++ wsX30)
def wsX1_passWeek_r1 : List Cond := [Cond.fieldLink RX1 18 "TandemExchange$Circle" "size" "I", Cond.fieldLink RX1 11 "TandemExchange$Circle" "members" "[LTandemExchange$Member;", Cond.fieldLink RX1 55 "TandemExchange$Member" "missedInRow" "I", Cond.fieldLink RX1 26 "TandemExchange$Circle" "weeks" "I", Cond.methodLink RX1 81 yX1_greaterPartner, Cond.instanceMethod yX1_greaterPartner, Cond.selects RX1 yX1_greaterPartner yX1_greaterPartner, Cond.initialized RX1, Cond.code yX1_greaterPartner cX1_greaterPartner 3 (some .int), Cond.fieldLink RX1 29 "TandemExchange$Member" "partner" "I", Cond.methodLink RX1 32 yX1_has, Cond.instanceMethod yX1_has, Cond.selects RX1 yX1_has yX1_has, Cond.code yX1_has cX1_has 2 (some .boolean), Cond.methodLink RX1 115 yX1_passWeekOfPair, Cond.instanceMethod yX1_passWeekOfPair, Cond.selects RX1 yX1_passWeekOfPair yX1_passWeekOfPair, Cond.code yX1_passWeekOfPair cX1_passWeekOfPair 8 none, Cond.methodLink RX1 118 yX3_failToMeet, Cond.instanceMethod yX3_failToMeet, Cond.selects RX3 yX3_failToMeet yX3_failToMeet, Cond.initialized RX3, Cond.code yX3_failToMeet cX3_failToMeet 2 none, Cond.fieldLink RX3 37 "TandemExchange$Member" "missedInRow" "I"]
def wsX1_passWeek_r2 : List Cond := [Cond.fieldLink RX3 31 "TandemExchange$Member" "missed" "I", Cond.methodLink RX3 49 yX3_gainCredits, Cond.instanceMethod yX3_gainCredits, Cond.selects RX3 yX3_gainCredits yX3_gainCredits, Cond.code yX3_gainCredits cX3_gainCredits 2 none, Cond.fieldLink RX3 28 "TandemExchange$Member" "credits" "I", Cond.methodLink RX3 40 Lib.Math.min.name, Cond.static Lib.Math.min.name, Cond.initialized "java/lang/Math", Cond.code Lib.Math.min.name Lib.Math.min.code 2 (some .int), Cond.methodLink RX3 46 Lib.Math.max.name, Cond.static Lib.Math.max.name, Cond.code Lib.Math.max.name Lib.Math.max.code 2 (some .int), Cond.methodLink RX1 122 yX1_pointsOfMeeting, Cond.instanceMethod yX1_pointsOfMeeting, Cond.selects RX1 yX1_pointsOfMeeting yX1_pointsOfMeeting, Cond.code yX1_pointsOfMeeting cX1_pointsOfMeeting 3 (some .int), Cond.methodLink RX1 128 Lib.Math.max.name, Cond.methodLink RX1 62 yX1_lead, Cond.instanceMethod yX1_lead, Cond.selects RX1 yX1_lead yX1_lead, Cond.code yX1_lead cX1_lead 4 (some .int), Cond.fieldLink RX1 40 "TandemExchange$Member" "wants" "I", Cond.fieldLink RX1 36 "TandemExchange$Member" "levels" "[I"]
def wsX1_passWeek_r3 : List Cond := [Cond.methodLink RX1 125 yX3_meet, Cond.instanceMethod yX3_meet, Cond.selects RX3 yX3_meet yX3_meet, Cond.code yX3_meet cX3_meet 2 none, Cond.methodLink RX3 53 yX3_learn, Cond.instanceMethod yX3_learn, Cond.selects RX3 yX3_learn yX3_learn, Cond.code yX3_learn cX3_learn 2 none, Cond.fieldLink RX3 25 "TandemExchange$Member" "progress" "I", Cond.fieldLink RX3 9 "TandemExchange$Member" "levels" "[I", Cond.fieldLink RX3 21 "TandemExchange$Member" "wants" "I", Cond.methodLink RX1 74 yX1_fit, Cond.instanceMethod yX1_fit, Cond.selects RX1 yX1_fit yX1_fit, Cond.code yX1_fit cX1_fit 3 (some .boolean), Cond.methodLink RX1 94 yX1_separate, Cond.instanceMethod yX1_separate, Cond.selects RX1 yX1_separate yX1_separate, Cond.code yX1_separate cX1_separate 3 none]
def wsX1_passWeek : List Cond := .code yX1_passWeek cX1_passWeek 4 none :: ((wsX1_passWeek_r1 ++ (wsX1_passWeek_r2 ++ wsX1_passWeek_r3)) ++ wsX10 ++ wsX30)
def wsX2_init : List Cond := .code yX2_init cX2_init 2 none :: ([.methodLink RX2 3 objectInit, .instanceMethod objectInit, .code objectInit ⟨#[0xb1]⟩ 1 none, .classLink RX2 9 RX1, .fieldLink RX2 11 "TandemExchange$History" "states" "[LTandemExchange$Circle;", .instantiable RX1 3, .initialized RX1, .methodLink RX2 17 yX1_init, .instanceMethod yX1_init, .code yX1_init cX1_init 2 none, .methodLink RX1 3 objectInit, .classLink RX1 9 RX3, .fieldLink RX1 11 "TandemExchange$Circle" "members" "[LTandemExchange$Member;", .instantiable RX3 7, .initialized RX3, .instanceMethod yX3_init, .code yX3_init cX3_init 1 none, .methodLink RX3 3 objectInit, .arrayClass .int, .fieldLink RX3 9 "TandemExchange$Member" "levels" "[I"] ++ wsX20 ++ wsX10 ++ wsX30)
def wsX2_remember_r1 : List Cond := [Cond.fieldLink RX2 18 "TandemExchange$History" "count" "I", Cond.fieldLink RX2 22 "TandemExchange$History" "oldest" "I", Cond.fieldLink RX2 11 "TandemExchange$History" "states" "[LTandemExchange$Circle;", Cond.methodLink RX2 25 yX1_copyFrom, Cond.instanceMethod yX1_copyFrom, Cond.selects RX1 yX1_copyFrom yX1_copyFrom, Cond.initialized RX1, Cond.code yX1_copyFrom cX1_copyFrom 3 none, Cond.fieldLink RX1 18 "TandemExchange$Circle" "size" "I", Cond.fieldLink RX1 11 "TandemExchange$Circle" "members" "[LTandemExchange$Member;", Cond.fieldLink RX1 26 "TandemExchange$Circle" "weeks" "I", Cond.methodLink RX1 22 yX3_copyFrom, Cond.instanceMethod yX3_copyFrom, Cond.selects RX3 yX3_copyFrom yX3_copyFrom, Cond.initialized RX3, Cond.code yX3_copyFrom cX3_copyFrom 2 none, Cond.fieldLink RX3 9 "TandemExchange$Member" "levels" "[I", Cond.methodLink RX3 15 arraycopyName, Cond.native arraycopyName, Cond.static arraycopyName, Cond.initialized "java/lang/System", Cond.fieldLink RX3 21 "TandemExchange$Member" "wants" "I", Cond.fieldLink RX3 25 "TandemExchange$Member" "progress" "I", Cond.fieldLink RX3 28 "TandemExchange$Member" "credits" "I"]
def wsX2_remember_r2 : List Cond := [Cond.fieldLink RX3 31 "TandemExchange$Member" "missed" "I", Cond.fieldLink RX3 34 "TandemExchange$Member" "partner" "I", Cond.fieldLink RX3 37 "TandemExchange$Member" "missedInRow" "I"]
def wsX2_remember : List Cond := .code yX2_remember cX2_remember 2 none :: ((wsX2_remember_r1 ++ wsX2_remember_r2) ++ wsX20 ++ wsX10 ++ wsX30)
def wsX2_takeBack_r1 : List Cond := [Cond.fieldLink RX2 18 "TandemExchange$History" "count" "I", Cond.fieldLink RX2 11 "TandemExchange$History" "states" "[LTandemExchange$Circle;", Cond.fieldLink RX2 22 "TandemExchange$History" "oldest" "I", Cond.methodLink RX2 25 yX1_copyFrom, Cond.instanceMethod yX1_copyFrom, Cond.selects RX1 yX1_copyFrom yX1_copyFrom, Cond.initialized RX1, Cond.code yX1_copyFrom cX1_copyFrom 3 none, Cond.fieldLink RX1 18 "TandemExchange$Circle" "size" "I", Cond.fieldLink RX1 11 "TandemExchange$Circle" "members" "[LTandemExchange$Member;", Cond.fieldLink RX1 26 "TandemExchange$Circle" "weeks" "I", Cond.methodLink RX1 22 yX3_copyFrom, Cond.instanceMethod yX3_copyFrom, Cond.selects RX3 yX3_copyFrom yX3_copyFrom, Cond.initialized RX3, Cond.code yX3_copyFrom cX3_copyFrom 2 none, Cond.fieldLink RX3 9 "TandemExchange$Member" "levels" "[I", Cond.methodLink RX3 15 arraycopyName, Cond.native arraycopyName, Cond.static arraycopyName, Cond.initialized "java/lang/System", Cond.fieldLink RX3 21 "TandemExchange$Member" "wants" "I", Cond.fieldLink RX3 25 "TandemExchange$Member" "progress" "I", Cond.fieldLink RX3 28 "TandemExchange$Member" "credits" "I"]
def wsX2_takeBack_r2 : List Cond := [Cond.fieldLink RX3 31 "TandemExchange$Member" "missed" "I", Cond.fieldLink RX3 34 "TandemExchange$Member" "partner" "I", Cond.fieldLink RX3 37 "TandemExchange$Member" "missedInRow" "I"]
def wsX2_takeBack : List Cond := .code yX2_takeBack cX2_takeBack 2 none :: ((wsX2_takeBack_r1 ++ wsX2_takeBack_r2) ++ wsX20 ++ wsX10 ++ wsX30)
def wsX2_forget : List Cond := .code yX2_forget cX2_forget 1 none :: ([.fieldLink RX2 18 "TandemExchange$History" "count" "I"] ++ wsX20)
def wsX3_wantedLevel : List Cond := .code yX3_wantedLevel cX3_wantedLevel 1 (some .int) :: ([.fieldLink RX3 9 "TandemExchange$Member" "levels" "[I", .fieldLink RX3 21 "TandemExchange$Member" "wants" "I"] ++ wsX30)
def wsX4_init : List Cond := .code yX4_init cX4_init 1 none :: ([.methodLink RX4 3 objectInit, .instanceMethod objectInit, .code objectInit ⟨#[0xb1]⟩ 1 none, .arrayClass .char, .fieldLink RX4 9 "TandemExchange$Text" "characters" "[C"] ++ wsX40)
def wsX4_add : List Cond := .code yX4_add cX4_add 2 none :: ([.fieldLink RX4 15 "TandemExchange$Text" "length" "I", .fieldLink RX4 9 "TandemExchange$Text" "characters" "[C"] ++ wsX40)
def wsX4_allows : List Cond := .code yX4_allows cX4_allows 5 (some .boolean) :: ([])
def wsX4_isWhole : List Cond := .code yX4_isWhole cX4_isWhole 1 (some .boolean) :: ([.fieldLink RX4 15 "TandemExchange$Text" "length" "I"] ++ wsX40)
def wsX4_firstError : List Cond := .code yX4_firstError cX4_firstError 2 (some .int) :: ([.fieldLink RX4 15 "TandemExchange$Text" "length" "I", .fieldLink RX4 9 "TandemExchange$Text" "characters" "[C", .methodLink RX4 19 yX4_allows, .instanceMethod yX4_allows, .selects RX4 yX4_allows yX4_allows, .initialized RX4, .code yX4_allows cX4_allows 5 (some .boolean), .methodLink RX4 23 yX4_isWhole, .instanceMethod yX4_isWhole, .selects RX4 yX4_isWhole yX4_isWhole, .code yX4_isWhole cX4_isWhole 1 (some .boolean)] ++ wsX40)
def wsX4_number : List Cond := .code yX4_number cX4_number 5 (some .int) :: ([.fieldLink RX4 15 "TandemExchange$Text" "length" "I", .fieldLink RX4 9 "TandemExchange$Text" "characters" "[C"] ++ wsX40)
def wsX4_readInto_r1 : List Cond := [Cond.fieldLink RX4 27 "TandemExchange$Circle" "size" "I", Cond.fieldLink RX4 32 "TandemExchange$Circle" "weeks" "I", Cond.fieldLink RX4 15 "TandemExchange$Text" "length" "I", Cond.methodLink RX4 35 yX4_number, Cond.instanceMethod yX4_number, Cond.selects RX4 yX4_number yX4_number, Cond.initialized RX4, Cond.code yX4_number cX4_number 5 (some .int), Cond.fieldLink RX4 9 "TandemExchange$Text" "characters" "[C", Cond.methodLink RX4 39 yX1_add, Cond.instanceMethod yX1_add, Cond.selects RX1 yX1_add yX1_add, Cond.initialized RX1, Cond.code yX1_add cX1_add 4 none, Cond.fieldLink RX1 18 "TandemExchange$Circle" "size" "I", Cond.fieldLink RX1 11 "TandemExchange$Circle" "members" "[LTandemExchange$Member;", Cond.methodLink RX1 90 yX3_start, Cond.instanceMethod yX3_start, Cond.selects RX3 yX3_start yX3_start, Cond.initialized RX3, Cond.code yX3_start cX3_start 6 none, Cond.fieldLink RX3 9 "TandemExchange$Member" "levels" "[I", Cond.fieldLink RX3 21 "TandemExchange$Member" "wants" "I", Cond.fieldLink RX3 25 "TandemExchange$Member" "progress" "I"]
def wsX4_readInto_r2 : List Cond := [Cond.fieldLink RX3 28 "TandemExchange$Member" "credits" "I", Cond.fieldLink RX3 31 "TandemExchange$Member" "missed" "I", Cond.fieldLink RX3 34 "TandemExchange$Member" "partner" "I", Cond.fieldLink RX3 37 "TandemExchange$Member" "missedInRow" "I"]
def wsX4_readInto : List Cond := .code yX4_readInto cX4_readInto 3 none :: ((wsX4_readInto_r1 ++ wsX4_readInto_r2) ++ wsX10 ++ wsX40 ++ wsX30)
def wsX5_init_r1 : List Cond := [Cond.methodLink RX5 3 objectInit, Cond.instanceMethod objectInit, Cond.code objectInit ⟨#[0xb1]⟩ 1 none, Cond.classLink RX5 9 RX4, Cond.instantiable RX4 2, Cond.initialized RX4, Cond.fieldLink RX5 12 "TandemExchange" "text" "LTandemExchange$Text;", Cond.classLink RX5 16 RX1, Cond.instantiable RX1 3, Cond.initialized RX1, Cond.fieldLink RX5 19 "TandemExchange" "circle" "LTandemExchange$Circle;", Cond.fieldLink RX5 23 "TandemExchange" "trial" "LTandemExchange$Circle;", Cond.classLink RX5 26 RX2, Cond.instantiable RX2 3, Cond.initialized RX2, Cond.fieldLink RX5 29 "TandemExchange" "history" "LTandemExchange$History;", Cond.fieldLink RX5 33 "TandemExchange" "slots" "[LTandemExchange$Circle;", Cond.arrayClass .boolean, Cond.fieldLink RX5 37 "TandemExchange" "saved" "[Z", Cond.classLink RX5 41 RX0, Cond.instantiable RX0 1, Cond.initialized RX0, Cond.fieldLink RX5 44 "TandemExchange" "bestMatching" "LTandemExchange$BestMatching;", Cond.instanceMethod yX4_init]
def wsX5_init_r2 : List Cond := [Cond.code yX4_init cX4_init 1 none, Cond.methodLink RX4 3 objectInit, Cond.arrayClass .char, Cond.fieldLink RX4 9 "TandemExchange$Text" "characters" "[C", Cond.methodLink RX5 18 yX1_init, Cond.instanceMethod yX1_init, Cond.code yX1_init cX1_init 2 none, Cond.methodLink RX1 3 objectInit, Cond.classLink RX1 9 RX3, Cond.fieldLink RX1 11 "TandemExchange$Circle" "members" "[LTandemExchange$Member;", Cond.instantiable RX3 7, Cond.initialized RX3, Cond.instanceMethod yX3_init, Cond.code yX3_init cX3_init 1 none, Cond.methodLink RX3 3 objectInit, Cond.arrayClass .int, Cond.fieldLink RX3 9 "TandemExchange$Member" "levels" "[I", Cond.methodLink RX5 28 yX2_init, Cond.instanceMethod yX2_init, Cond.code yX2_init cX2_init 2 none, Cond.methodLink RX2 3 objectInit, Cond.classLink RX2 9 RX1, Cond.fieldLink RX2 11 "TandemExchange$History" "states" "[LTandemExchange$Circle;", Cond.methodLink RX2 17 yX1_init]
def wsX5_init_r3 : List Cond := [Cond.instanceMethod yX0_init, Cond.code yX0_init cX0_init 1 none, Cond.methodLink RX0 3 objectInit, Cond.fieldLink RX0 9 "TandemExchange$BestMatching" "ranks" "[I"]
def wsX5_init : List Cond := .code yX5_init cX5_init 2 none :: ((wsX5_init_r1 ++ (wsX5_init_r2 ++ wsX5_init_r3)) ++ wsX40 ++ wsX50 ++ wsX10 ++ wsX20 ++ wsX00 ++ wsX30)
def wsX5_requireRange : List Cond := .code yX5_requireRange cX5_requireRange 3 none :: ([.classLink RX5 101 "java/lang/IllegalArgumentException", .initialized "java/lang/IllegalArgumentException"] ++ (vx_atS RX5 105 "java/lang/IllegalArgumentException" ["java/lang/RuntimeException", "java/lang/Exception"]).filter goodWord)
def wsX5_append : List Cond := .code yX5_append cX5_append 2 (some .int) :: ([.classLink RX5 56 "java/lang/IllegalStateException", .initialized "java/lang/IllegalStateException", .fieldLink RX5 12 "TandemExchange" "text" "LTandemExchange$Text;", .fieldLink RX5 52 "TandemExchange$Text" "length" "I", .methodLink RX5 48 yX5_requireRange, .static yX5_requireRange, .initialized RX5, .code yX5_requireRange cX5_requireRange 3 none, .classLink RX5 101 "java/lang/IllegalArgumentException", .initialized "java/lang/IllegalArgumentException", .methodLink RX5 63 yX4_add, .instanceMethod yX4_add, .selects RX4 yX4_add yX4_add, .initialized RX4, .code yX4_add cX4_add 2 none, .fieldLink RX4 15 "TandemExchange$Text" "length" "I", .fieldLink RX4 9 "TandemExchange$Text" "characters" "[C"] ++ wsX50 ++ wsX40 ++ (vx_atS RX5 60 "java/lang/IllegalStateException" ["java/lang/RuntimeException", "java/lang/Exception"]).filter goodWord ++ (vx_atS RX5 105 "java/lang/IllegalArgumentException" ["java/lang/RuntimeException", "java/lang/Exception"]).filter goodWord)
def wsX5_clearText : List Cond := .code yX5_clearText cX5_clearText 2 (some .int) :: ([.fieldLink RX5 12 "TandemExchange" "text" "LTandemExchange$Text;", .fieldLink RX5 52 "TandemExchange$Text" "length" "I"] ++ wsX50 ++ wsX40)
def wsX5_errorPosition : List Cond := .code yX5_errorPosition cX5_errorPosition 1 (some .int) :: ([.fieldLink RX5 12 "TandemExchange" "text" "LTandemExchange$Text;", .methodLink RX5 67 yX4_firstError, .instanceMethod yX4_firstError, .selects RX4 yX4_firstError yX4_firstError, .initialized RX4, .code yX4_firstError cX4_firstError 2 (some .int), .fieldLink RX4 15 "TandemExchange$Text" "length" "I", .fieldLink RX4 9 "TandemExchange$Text" "characters" "[C", .methodLink RX4 19 yX4_allows, .instanceMethod yX4_allows, .selects RX4 yX4_allows yX4_allows, .code yX4_allows cX4_allows 5 (some .boolean), .methodLink RX4 23 yX4_isWhole, .instanceMethod yX4_isWhole, .selects RX4 yX4_isWhole yX4_isWhole, .code yX4_isWhole cX4_isWhole 1 (some .boolean)] ++ wsX50 ++ wsX40)
def wsX5_load_r1 : List Cond := [Cond.classLink RX5 56 "java/lang/IllegalStateException", Cond.initialized "java/lang/IllegalStateException", Cond.fieldLink RX5 12 "TandemExchange" "text" "LTandemExchange$Text;", Cond.fieldLink RX5 19 "TandemExchange" "circle" "LTandemExchange$Circle;", Cond.fieldLink RX5 29 "TandemExchange" "history" "LTandemExchange$History;", Cond.fieldLink RX5 37 "TandemExchange" "saved" "[Z", Cond.fieldLink RX5 80 "TandemExchange$Circle" "size" "I", Cond.methodLink RX5 67 yX4_firstError, Cond.instanceMethod yX4_firstError, Cond.selects RX4 yX4_firstError yX4_firstError, Cond.initialized RX4, Cond.code yX4_firstError cX4_firstError 2 (some .int), Cond.fieldLink RX4 15 "TandemExchange$Text" "length" "I", Cond.fieldLink RX4 9 "TandemExchange$Text" "characters" "[C", Cond.methodLink RX4 19 yX4_allows, Cond.instanceMethod yX4_allows, Cond.selects RX4 yX4_allows yX4_allows, Cond.code yX4_allows cX4_allows 5 (some .boolean), Cond.methodLink RX4 23 yX4_isWhole, Cond.instanceMethod yX4_isWhole, Cond.selects RX4 yX4_isWhole yX4_isWhole, Cond.code yX4_isWhole cX4_isWhole 1 (some .boolean), Cond.methodLink RX5 73 yX4_readInto, Cond.instanceMethod yX4_readInto]
def wsX5_load_r2 : List Cond := [Cond.selects RX4 yX4_readInto yX4_readInto, Cond.code yX4_readInto cX4_readInto 3 none, Cond.fieldLink RX4 27 "TandemExchange$Circle" "size" "I", Cond.fieldLink RX4 32 "TandemExchange$Circle" "weeks" "I", Cond.methodLink RX4 35 yX4_number, Cond.instanceMethod yX4_number, Cond.selects RX4 yX4_number yX4_number, Cond.code yX4_number cX4_number 5 (some .int), Cond.methodLink RX4 39 yX1_add, Cond.instanceMethod yX1_add, Cond.selects RX1 yX1_add yX1_add, Cond.initialized RX1, Cond.code yX1_add cX1_add 4 none, Cond.fieldLink RX1 18 "TandemExchange$Circle" "size" "I", Cond.fieldLink RX1 11 "TandemExchange$Circle" "members" "[LTandemExchange$Member;", Cond.methodLink RX1 90 yX3_start, Cond.instanceMethod yX3_start, Cond.selects RX3 yX3_start yX3_start, Cond.initialized RX3, Cond.code yX3_start cX3_start 6 none, Cond.fieldLink RX3 9 "TandemExchange$Member" "levels" "[I", Cond.fieldLink RX3 21 "TandemExchange$Member" "wants" "I", Cond.fieldLink RX3 25 "TandemExchange$Member" "progress" "I", Cond.fieldLink RX3 28 "TandemExchange$Member" "credits" "I"]
def wsX5_load_r3 : List Cond := [Cond.fieldLink RX3 31 "TandemExchange$Member" "missed" "I", Cond.fieldLink RX3 34 "TandemExchange$Member" "partner" "I", Cond.fieldLink RX3 37 "TandemExchange$Member" "missedInRow" "I", Cond.methodLink RX5 77 yX2_forget, Cond.instanceMethod yX2_forget, Cond.selects RX2 yX2_forget yX2_forget, Cond.initialized RX2, Cond.code yX2_forget cX2_forget 1 none, Cond.fieldLink RX2 18 "TandemExchange$History" "count" "I"]
def wsX5_load : List Cond := .code yX5_load cX5_load 2 (some .int) :: ((wsX5_load_r1 ++ (wsX5_load_r2 ++ wsX5_load_r3)) ++ wsX50 ++ wsX10 ++ wsX40 ++ wsX30 ++ wsX20 ++ (vx_atS RX5 60 "java/lang/IllegalStateException" ["java/lang/RuntimeException", "java/lang/Exception"]).filter goodWord)
def wsX5_about_r1 : List Cond := [Cond.classLink RX5 101 "java/lang/IllegalArgumentException", Cond.initialized "java/lang/IllegalArgumentException", Cond.fieldLink RX5 19 "TandemExchange" "circle" "LTandemExchange$Circle;", Cond.fieldLink RX5 80 "TandemExchange$Circle" "size" "I", Cond.fieldLink RX5 86 "TandemExchange$Circle" "weeks" "I", Cond.methodLink RX5 83 yX1_countPairs, Cond.instanceMethod yX1_countPairs, Cond.selects RX1 yX1_countPairs yX1_countPairs, Cond.initialized RX1, Cond.code yX1_countPairs cX1_countPairs 3 (some .int), Cond.fieldLink RX1 18 "TandemExchange$Circle" "size" "I", Cond.methodLink RX1 81 yX1_greaterPartner, Cond.instanceMethod yX1_greaterPartner, Cond.selects RX1 yX1_greaterPartner yX1_greaterPartner, Cond.code yX1_greaterPartner cX1_greaterPartner 3 (some .int), Cond.fieldLink RX1 11 "TandemExchange$Circle" "members" "[LTandemExchange$Member;", Cond.fieldLink RX1 29 "TandemExchange$Member" "partner" "I", Cond.methodLink RX1 32 yX1_has, Cond.instanceMethod yX1_has, Cond.selects RX1 yX1_has yX1_has, Cond.code yX1_has cX1_has 2 (some .boolean), Cond.methodLink RX5 89 yX1_sumOfValues, Cond.instanceMethod yX1_sumOfValues, Cond.selects RX1 yX1_sumOfValues yX1_sumOfValues]
def wsX5_about_r2 : List Cond := [Cond.code yX1_sumOfValues cX1_sumOfValues 4 (some .int), Cond.methodLink RX1 84 yX1_value, Cond.instanceMethod yX1_value, Cond.selects RX1 yX1_value yX1_value, Cond.code yX1_value cX1_value 3 (some .int), Cond.methodLink RX1 71 yX1_score, Cond.instanceMethod yX1_score, Cond.selects RX1 yX1_score yX1_score, Cond.code yX1_score cX1_score 4 (some .int), Cond.fieldLink RX1 49 "TandemExchange$Member" "missed" "I", Cond.fieldLink RX1 46 "TandemExchange$Member" "credits" "I", Cond.methodLink RX1 62 yX1_lead, Cond.instanceMethod yX1_lead, Cond.selects RX1 yX1_lead yX1_lead, Cond.code yX1_lead cX1_lead 4 (some .int), Cond.fieldLink RX1 40 "TandemExchange$Member" "wants" "I", Cond.fieldLink RX1 36 "TandemExchange$Member" "levels" "[I", Cond.methodLink RX1 66 yJ9_floorDiv_7cf53, Cond.static yJ9_floorDiv_7cf53, Cond.initialized RJ9, Cond.code yJ9_floorDiv_7cf53 cJ9_floorDiv_7cf53 3 (some .int), Cond.methodLink RX5 92 yX1_countBlocking, Cond.instanceMethod yX1_countBlocking, Cond.selects RX1 yX1_countBlocking yX1_countBlocking]
def wsX5_about_r3 : List Cond := [Cond.code yX1_countBlocking cX1_countBlocking 4 (some .int), Cond.methodLink RX1 87 yX1_block, Cond.instanceMethod yX1_block, Cond.selects RX1 yX1_block yX1_block, Cond.code yX1_block cX1_block 3 (some .boolean), Cond.methodLink RX1 74 yX1_fit, Cond.instanceMethod yX1_fit, Cond.selects RX1 yX1_fit yX1_fit, Cond.code yX1_fit cX1_fit 3 (some .boolean), Cond.methodLink RX1 78 yX1_prefers, Cond.instanceMethod yX1_prefers, Cond.selects RX1 yX1_prefers yX1_prefers, Cond.code yX1_prefers cX1_prefers 4 (some .boolean), Cond.methodLink RX5 95 yX1_sumOfCredits, Cond.instanceMethod yX1_sumOfCredits, Cond.selects RX1 yX1_sumOfCredits yX1_sumOfCredits, Cond.code yX1_sumOfCredits cX1_sumOfCredits 3 (some .int), Cond.methodLink RX5 98 yX1_countFitting, Cond.instanceMethod yX1_countFitting, Cond.selects RX1 yX1_countFitting yX1_countFitting, Cond.code yX1_countFitting cX1_countFitting 3 (some .int), Cond.methodLink RX1 58 yX1_countFittingWith, Cond.instanceMethod yX1_countFittingWith, Cond.selects RX1 yX1_countFittingWith yX1_countFittingWith]
def wsX5_about_r4 : List Cond := [Cond.code yX1_countFittingWith cX1_countFittingWith 4 (some .int)]
def wsX5_about : List Cond := .code yX5_about cX5_about 2 (some .int) :: ((wsX5_about_r1 ++ (wsX5_about_r2 ++ (wsX5_about_r3 ++ wsX5_about_r4))) ++ wsX50 ++ wsX10 ++ wsX30 ++ (vx_atS RX5 105 "java/lang/IllegalArgumentException" ["java/lang/RuntimeException", "java/lang/Exception"]).filter goodWord)
def wsX5_requireMember : List Cond := .code yX5_requireMember cX5_requireMember 2 none :: ([.classLink RX5 255 "java/lang/IndexOutOfBoundsException", .initialized "java/lang/IndexOutOfBoundsException", .fieldLink RX5 19 "TandemExchange" "circle" "LTandemExchange$Circle;", .methodLink RX5 252 yX1_has, .instanceMethod yX1_has, .selects RX1 yX1_has yX1_has, .initialized RX1, .code yX1_has cX1_has 2 (some .boolean), .fieldLink RX1 18 "TandemExchange$Circle" "size" "I"] ++ wsX50 ++ wsX10 ++ (vx_atS RX5 259 "java/lang/IndexOutOfBoundsException" ["java/lang/RuntimeException", "java/lang/Exception"]).filter goodWord)
def wsX5_member_r1 : List Cond := [Cond.fieldLink RX5 19 "TandemExchange" "circle" "LTandemExchange$Circle;", Cond.methodLink RX5 106 yX5_requireMember, Cond.instanceMethod yX5_requireMember, Cond.selects RX5 yX5_requireMember yX5_requireMember, Cond.initialized RX5, Cond.code yX5_requireMember cX5_requireMember 2 none, Cond.classLink RX5 255 "java/lang/IndexOutOfBoundsException", Cond.initialized "java/lang/IndexOutOfBoundsException", Cond.methodLink RX5 252 yX1_has, Cond.instanceMethod yX1_has, Cond.selects RX1 yX1_has yX1_has, Cond.initialized RX1, Cond.code yX1_has cX1_has 2 (some .boolean), Cond.fieldLink RX1 18 "TandemExchange$Circle" "size" "I", Cond.methodLink RX5 48 yX5_requireRange, Cond.static yX5_requireRange, Cond.code yX5_requireRange cX5_requireRange 3 none, Cond.classLink RX5 101 "java/lang/IllegalArgumentException", Cond.initialized "java/lang/IllegalArgumentException", Cond.methodLink RX5 110 yX1_numberOf, Cond.instanceMethod yX1_numberOf, Cond.selects RX1 yX1_numberOf yX1_numberOf, Cond.code yX1_numberOf cX1_numberOf 4 (some .int), Cond.fieldLink RX1 11 "TandemExchange$Circle" "members" "[LTandemExchange$Member;"]
def wsX5_member_r2 : List Cond := [Cond.fieldLink RX1 36 "TandemExchange$Member" "levels" "[I", Cond.fieldLink RX1 40 "TandemExchange$Member" "wants" "I", Cond.fieldLink RX1 43 "TandemExchange$Member" "progress" "I", Cond.fieldLink RX1 46 "TandemExchange$Member" "credits" "I", Cond.fieldLink RX1 49 "TandemExchange$Member" "missed" "I", Cond.fieldLink RX1 29 "TandemExchange$Member" "partner" "I", Cond.fieldLink RX1 55 "TandemExchange$Member" "missedInRow" "I", Cond.methodLink RX1 52 yX1_isFree, Cond.instanceMethod yX1_isFree, Cond.selects RX1 yX1_isFree yX1_isFree, Cond.code yX1_isFree cX1_isFree 2 (some .boolean), Cond.methodLink RX1 58 yX1_countFittingWith, Cond.instanceMethod yX1_countFittingWith, Cond.selects RX1 yX1_countFittingWith yX1_countFittingWith, Cond.code yX1_countFittingWith cX1_countFittingWith 4 (some .int), Cond.methodLink RX1 74 yX1_fit, Cond.instanceMethod yX1_fit, Cond.selects RX1 yX1_fit yX1_fit, Cond.code yX1_fit cX1_fit 3 (some .boolean), Cond.methodLink RX1 62 yX1_lead, Cond.instanceMethod yX1_lead, Cond.selects RX1 yX1_lead yX1_lead, Cond.code yX1_lead cX1_lead 4 (some .int)]
def wsX5_member : List Cond := .code yX5_member cX5_member 3 (some .int) :: ((wsX5_member_r1 ++ wsX5_member_r2) ++ wsX50 ++ wsX10 ++ wsX30 ++ (vx_atS RX5 259 "java/lang/IndexOutOfBoundsException" ["java/lang/RuntimeException", "java/lang/Exception"]).filter goodWord ++ (vx_atS RX5 105 "java/lang/IllegalArgumentException" ["java/lang/RuntimeException", "java/lang/Exception"]).filter goodWord)
def wsX5_requireTwoMembers : List Cond := .code yX5_requireTwoMembers cX5_requireTwoMembers 3 none :: ([.classLink RX5 101 "java/lang/IllegalArgumentException", .initialized "java/lang/IllegalArgumentException", .methodLink RX5 106 yX5_requireMember, .instanceMethod yX5_requireMember, .selects RX5 yX5_requireMember yX5_requireMember, .initialized RX5, .code yX5_requireMember cX5_requireMember 2 none, .classLink RX5 255 "java/lang/IndexOutOfBoundsException", .initialized "java/lang/IndexOutOfBoundsException", .fieldLink RX5 19 "TandemExchange" "circle" "LTandemExchange$Circle;", .methodLink RX5 252 yX1_has, .instanceMethod yX1_has, .selects RX1 yX1_has yX1_has, .initialized RX1, .code yX1_has cX1_has 2 (some .boolean), .fieldLink RX1 18 "TandemExchange$Circle" "size" "I"] ++ wsX50 ++ wsX10 ++ (vx_atS RX5 105 "java/lang/IllegalArgumentException" ["java/lang/RuntimeException", "java/lang/Exception"]).filter goodWord ++ (vx_atS RX5 259 "java/lang/IndexOutOfBoundsException" ["java/lang/RuntimeException", "java/lang/Exception"]).filter goodWord)
def wsX5_both_r1 : List Cond := [Cond.classLink RX5 101 "java/lang/IllegalArgumentException", Cond.initialized "java/lang/IllegalArgumentException", Cond.fieldLink RX5 19 "TandemExchange" "circle" "LTandemExchange$Circle;", Cond.methodLink RX5 114 yX5_requireTwoMembers, Cond.instanceMethod yX5_requireTwoMembers, Cond.selects RX5 yX5_requireTwoMembers yX5_requireTwoMembers, Cond.initialized RX5, Cond.code yX5_requireTwoMembers cX5_requireTwoMembers 3 none, Cond.methodLink RX5 106 yX5_requireMember, Cond.instanceMethod yX5_requireMember, Cond.selects RX5 yX5_requireMember yX5_requireMember, Cond.code yX5_requireMember cX5_requireMember 2 none, Cond.classLink RX5 255 "java/lang/IndexOutOfBoundsException", Cond.initialized "java/lang/IndexOutOfBoundsException", Cond.methodLink RX5 252 yX1_has, Cond.instanceMethod yX1_has, Cond.selects RX1 yX1_has yX1_has, Cond.initialized RX1, Cond.code yX1_has cX1_has 2 (some .boolean), Cond.fieldLink RX1 18 "TandemExchange$Circle" "size" "I", Cond.methodLink RX5 118 yX1_score, Cond.instanceMethod yX1_score, Cond.selects RX1 yX1_score yX1_score, Cond.code yX1_score cX1_score 4 (some .int)]
def wsX5_both_r2 : List Cond := [Cond.fieldLink RX1 11 "TandemExchange$Circle" "members" "[LTandemExchange$Member;", Cond.fieldLink RX1 49 "TandemExchange$Member" "missed" "I", Cond.fieldLink RX1 46 "TandemExchange$Member" "credits" "I", Cond.methodLink RX1 62 yX1_lead, Cond.instanceMethod yX1_lead, Cond.selects RX1 yX1_lead yX1_lead, Cond.code yX1_lead cX1_lead 4 (some .int), Cond.fieldLink RX1 40 "TandemExchange$Member" "wants" "I", Cond.fieldLink RX1 36 "TandemExchange$Member" "levels" "[I", Cond.methodLink RX1 66 yJ9_floorDiv_7cf53, Cond.static yJ9_floorDiv_7cf53, Cond.initialized RJ9, Cond.code yJ9_floorDiv_7cf53 cJ9_floorDiv_7cf53 3 (some .int), Cond.methodLink RX5 121 yX1_value, Cond.instanceMethod yX1_value, Cond.selects RX1 yX1_value yX1_value, Cond.code yX1_value cX1_value 3 (some .int), Cond.methodLink RX1 71 yX1_score, Cond.methodLink RX5 124 yX1_fit, Cond.instanceMethod yX1_fit, Cond.selects RX1 yX1_fit yX1_fit, Cond.code yX1_fit cX1_fit 3 (some .boolean), Cond.methodLink RX5 128 yX1_block, Cond.instanceMethod yX1_block]
def wsX5_both_r3 : List Cond := [Cond.selects RX1 yX1_block yX1_block, Cond.code yX1_block cX1_block 3 (some .boolean), Cond.fieldLink RX1 29 "TandemExchange$Member" "partner" "I", Cond.methodLink RX1 74 yX1_fit, Cond.methodLink RX1 78 yX1_prefers, Cond.instanceMethod yX1_prefers, Cond.selects RX1 yX1_prefers yX1_prefers, Cond.code yX1_prefers cX1_prefers 4 (some .boolean), Cond.methodLink RX1 32 yX1_has]
def wsX5_both : List Cond := .code yX5_both cX5_both 4 (some .int) :: ((wsX5_both_r1 ++ (wsX5_both_r2 ++ wsX5_both_r3)) ++ wsX50 ++ wsX10 ++ wsX30 ++ (vx_atS RX5 105 "java/lang/IllegalArgumentException" ["java/lang/RuntimeException", "java/lang/Exception"]).filter goodWord ++ (vx_atS RX5 259 "java/lang/IndexOutOfBoundsException" ["java/lang/RuntimeException", "java/lang/Exception"]).filter goodWord)
def wsX5_requireLanguage : List Cond := .code yX5_requireLanguage cX5_requireLanguage 1 none :: ([.methodLink RX5 48 yX5_requireRange, .static yX5_requireRange, .initialized RX5, .code yX5_requireRange cX5_requireRange 3 none, .classLink RX5 101 "java/lang/IllegalArgumentException", .initialized "java/lang/IllegalArgumentException"] ++ (vx_atS RX5 105 "java/lang/IllegalArgumentException" ["java/lang/RuntimeException", "java/lang/Exception"]).filter goodWord)
def wsX5_join_r1 : List Cond := [Cond.classLink RX5 56 "java/lang/IllegalStateException", Cond.initialized "java/lang/IllegalStateException", Cond.fieldLink RX5 19 "TandemExchange" "circle" "LTandemExchange$Circle;", Cond.fieldLink RX5 80 "TandemExchange$Circle" "size" "I", Cond.fieldLink RX5 29 "TandemExchange" "history" "LTandemExchange$History;", Cond.methodLink RX5 133 yX5_requireLanguage, Cond.static yX5_requireLanguage, Cond.initialized RX5, Cond.code yX5_requireLanguage cX5_requireLanguage 1 none, Cond.methodLink RX5 48 yX5_requireRange, Cond.static yX5_requireRange, Cond.code yX5_requireRange cX5_requireRange 3 none, Cond.classLink RX5 101 "java/lang/IllegalArgumentException", Cond.initialized "java/lang/IllegalArgumentException", Cond.methodLink RX5 138 yX2_remember, Cond.instanceMethod yX2_remember, Cond.selects RX2 yX2_remember yX2_remember, Cond.initialized RX2, Cond.code yX2_remember cX2_remember 2 none, Cond.fieldLink RX2 18 "TandemExchange$History" "count" "I", Cond.fieldLink RX2 22 "TandemExchange$History" "oldest" "I", Cond.fieldLink RX2 11 "TandemExchange$History" "states" "[LTandemExchange$Circle;", Cond.methodLink RX2 25 yX1_copyFrom, Cond.instanceMethod yX1_copyFrom]
def wsX5_join_r2 : List Cond := [Cond.selects RX1 yX1_copyFrom yX1_copyFrom, Cond.initialized RX1, Cond.code yX1_copyFrom cX1_copyFrom 3 none, Cond.fieldLink RX1 18 "TandemExchange$Circle" "size" "I", Cond.fieldLink RX1 11 "TandemExchange$Circle" "members" "[LTandemExchange$Member;", Cond.fieldLink RX1 26 "TandemExchange$Circle" "weeks" "I", Cond.methodLink RX1 22 yX3_copyFrom, Cond.instanceMethod yX3_copyFrom, Cond.selects RX3 yX3_copyFrom yX3_copyFrom, Cond.initialized RX3, Cond.code yX3_copyFrom cX3_copyFrom 2 none, Cond.fieldLink RX3 9 "TandemExchange$Member" "levels" "[I", Cond.methodLink RX3 15 arraycopyName, Cond.native arraycopyName, Cond.static arraycopyName, Cond.initialized "java/lang/System", Cond.fieldLink RX3 21 "TandemExchange$Member" "wants" "I", Cond.fieldLink RX3 25 "TandemExchange$Member" "progress" "I", Cond.fieldLink RX3 28 "TandemExchange$Member" "credits" "I", Cond.fieldLink RX3 31 "TandemExchange$Member" "missed" "I", Cond.fieldLink RX3 34 "TandemExchange$Member" "partner" "I", Cond.fieldLink RX3 37 "TandemExchange$Member" "missedInRow" "I", Cond.methodLink RX5 141 yX1_add, Cond.instanceMethod yX1_add]
def wsX5_join_r3 : List Cond := [Cond.selects RX1 yX1_add yX1_add, Cond.code yX1_add cX1_add 4 none, Cond.methodLink RX1 90 yX3_start, Cond.instanceMethod yX3_start, Cond.selects RX3 yX3_start yX3_start, Cond.code yX3_start cX3_start 6 none]
def wsX5_join : List Cond := .code yX5_join cX5_join 4 (some .int) :: ((wsX5_join_r1 ++ (wsX5_join_r2 ++ wsX5_join_r3)) ++ wsX50 ++ wsX10 ++ wsX20 ++ wsX30 ++ (vx_atS RX5 60 "java/lang/IllegalStateException" ["java/lang/RuntimeException", "java/lang/Exception"]).filter goodWord ++ (vx_atS RX5 105 "java/lang/IllegalArgumentException" ["java/lang/RuntimeException", "java/lang/Exception"]).filter goodWord)
def wsX5_leave_r1 : List Cond := [Cond.fieldLink RX5 29 "TandemExchange" "history" "LTandemExchange$History;", Cond.fieldLink RX5 19 "TandemExchange" "circle" "LTandemExchange$Circle;", Cond.fieldLink RX5 143 "TandemExchange$Circle" "members" "[LTandemExchange$Member;", Cond.fieldLink RX5 147 "TandemExchange$Member" "credits" "I", Cond.methodLink RX5 106 yX5_requireMember, Cond.instanceMethod yX5_requireMember, Cond.selects RX5 yX5_requireMember yX5_requireMember, Cond.initialized RX5, Cond.code yX5_requireMember cX5_requireMember 2 none, Cond.classLink RX5 255 "java/lang/IndexOutOfBoundsException", Cond.initialized "java/lang/IndexOutOfBoundsException", Cond.methodLink RX5 252 yX1_has, Cond.instanceMethod yX1_has, Cond.selects RX1 yX1_has yX1_has, Cond.initialized RX1, Cond.code yX1_has cX1_has 2 (some .boolean), Cond.fieldLink RX1 18 "TandemExchange$Circle" "size" "I", Cond.methodLink RX5 138 yX2_remember, Cond.instanceMethod yX2_remember, Cond.selects RX2 yX2_remember yX2_remember, Cond.initialized RX2, Cond.code yX2_remember cX2_remember 2 none, Cond.fieldLink RX2 18 "TandemExchange$History" "count" "I", Cond.fieldLink RX2 22 "TandemExchange$History" "oldest" "I"]
def wsX5_leave_r2 : List Cond := [Cond.fieldLink RX2 11 "TandemExchange$History" "states" "[LTandemExchange$Circle;", Cond.methodLink RX2 25 yX1_copyFrom, Cond.instanceMethod yX1_copyFrom, Cond.selects RX1 yX1_copyFrom yX1_copyFrom, Cond.code yX1_copyFrom cX1_copyFrom 3 none, Cond.fieldLink RX1 11 "TandemExchange$Circle" "members" "[LTandemExchange$Member;", Cond.fieldLink RX1 26 "TandemExchange$Circle" "weeks" "I", Cond.methodLink RX1 22 yX3_copyFrom, Cond.instanceMethod yX3_copyFrom, Cond.selects RX3 yX3_copyFrom yX3_copyFrom, Cond.initialized RX3, Cond.code yX3_copyFrom cX3_copyFrom 2 none, Cond.fieldLink RX3 9 "TandemExchange$Member" "levels" "[I", Cond.methodLink RX3 15 arraycopyName, Cond.native arraycopyName, Cond.static arraycopyName, Cond.initialized "java/lang/System", Cond.fieldLink RX3 21 "TandemExchange$Member" "wants" "I", Cond.fieldLink RX3 25 "TandemExchange$Member" "progress" "I", Cond.fieldLink RX3 28 "TandemExchange$Member" "credits" "I", Cond.fieldLink RX3 31 "TandemExchange$Member" "missed" "I", Cond.fieldLink RX3 34 "TandemExchange$Member" "partner" "I", Cond.fieldLink RX3 37 "TandemExchange$Member" "missedInRow" "I", Cond.methodLink RX5 152 yX1_remove]
def wsX5_leave_r3 : List Cond := [Cond.instanceMethod yX1_remove, Cond.selects RX1 yX1_remove yX1_remove, Cond.code yX1_remove cX1_remove 3 none, Cond.fieldLink RX1 29 "TandemExchange$Member" "partner" "I", Cond.methodLink RX1 94 yX1_separate, Cond.instanceMethod yX1_separate, Cond.selects RX1 yX1_separate yX1_separate, Cond.code yX1_separate cX1_separate 3 none, Cond.methodLink RX1 32 yX1_has]
def wsX5_leave : List Cond := .code yX5_leave cX5_leave 3 (some .int) :: ((wsX5_leave_r1 ++ (wsX5_leave_r2 ++ wsX5_leave_r3)) ++ wsX50 ++ wsX10 ++ wsX30 ++ wsX20 ++ (vx_atS RX5 259 "java/lang/IndexOutOfBoundsException" ["java/lang/RuntimeException", "java/lang/Exception"]).filter goodWord)
def wsX5_want_r1 : List Cond := [Cond.fieldLink RX5 29 "TandemExchange" "history" "LTandemExchange$History;", Cond.fieldLink RX5 19 "TandemExchange" "circle" "LTandemExchange$Circle;", Cond.fieldLink RX5 143 "TandemExchange$Circle" "members" "[LTandemExchange$Member;", Cond.fieldLink RX5 155 "TandemExchange$Member" "wants" "I", Cond.methodLink RX5 106 yX5_requireMember, Cond.instanceMethod yX5_requireMember, Cond.selects RX5 yX5_requireMember yX5_requireMember, Cond.initialized RX5, Cond.code yX5_requireMember cX5_requireMember 2 none, Cond.classLink RX5 255 "java/lang/IndexOutOfBoundsException", Cond.initialized "java/lang/IndexOutOfBoundsException", Cond.methodLink RX5 252 yX1_has, Cond.instanceMethod yX1_has, Cond.selects RX1 yX1_has yX1_has, Cond.initialized RX1, Cond.code yX1_has cX1_has 2 (some .boolean), Cond.fieldLink RX1 18 "TandemExchange$Circle" "size" "I", Cond.methodLink RX5 133 yX5_requireLanguage, Cond.static yX5_requireLanguage, Cond.code yX5_requireLanguage cX5_requireLanguage 1 none, Cond.methodLink RX5 48 yX5_requireRange, Cond.static yX5_requireRange, Cond.code yX5_requireRange cX5_requireRange 3 none, Cond.classLink RX5 101 "java/lang/IllegalArgumentException"]
def wsX5_want_r2 : List Cond := [Cond.initialized "java/lang/IllegalArgumentException", Cond.methodLink RX5 138 yX2_remember, Cond.instanceMethod yX2_remember, Cond.selects RX2 yX2_remember yX2_remember, Cond.initialized RX2, Cond.code yX2_remember cX2_remember 2 none, Cond.fieldLink RX2 18 "TandemExchange$History" "count" "I", Cond.fieldLink RX2 22 "TandemExchange$History" "oldest" "I", Cond.fieldLink RX2 11 "TandemExchange$History" "states" "[LTandemExchange$Circle;", Cond.methodLink RX2 25 yX1_copyFrom, Cond.instanceMethod yX1_copyFrom, Cond.selects RX1 yX1_copyFrom yX1_copyFrom, Cond.code yX1_copyFrom cX1_copyFrom 3 none, Cond.fieldLink RX1 11 "TandemExchange$Circle" "members" "[LTandemExchange$Member;", Cond.fieldLink RX1 26 "TandemExchange$Circle" "weeks" "I", Cond.methodLink RX1 22 yX3_copyFrom, Cond.instanceMethod yX3_copyFrom, Cond.selects RX3 yX3_copyFrom yX3_copyFrom, Cond.initialized RX3, Cond.code yX3_copyFrom cX3_copyFrom 2 none, Cond.fieldLink RX3 9 "TandemExchange$Member" "levels" "[I", Cond.methodLink RX3 15 arraycopyName, Cond.native arraycopyName, Cond.static arraycopyName]
def wsX5_want_r3 : List Cond := [Cond.initialized "java/lang/System", Cond.fieldLink RX3 21 "TandemExchange$Member" "wants" "I", Cond.fieldLink RX3 25 "TandemExchange$Member" "progress" "I", Cond.fieldLink RX3 28 "TandemExchange$Member" "credits" "I", Cond.fieldLink RX3 31 "TandemExchange$Member" "missed" "I", Cond.fieldLink RX3 34 "TandemExchange$Member" "partner" "I", Cond.fieldLink RX3 37 "TandemExchange$Member" "missedInRow" "I", Cond.methodLink RX5 158 yX1_changeWish, Cond.instanceMethod yX1_changeWish, Cond.selects RX1 yX1_changeWish yX1_changeWish, Cond.code yX1_changeWish cX1_changeWish 3 none, Cond.fieldLink RX1 40 "TandemExchange$Member" "wants" "I", Cond.fieldLink RX1 43 "TandemExchange$Member" "progress" "I", Cond.methodLink RX1 98 yX1_separateIfUnfit, Cond.instanceMethod yX1_separateIfUnfit, Cond.selects RX1 yX1_separateIfUnfit yX1_separateIfUnfit, Cond.code yX1_separateIfUnfit cX1_separateIfUnfit 3 none, Cond.fieldLink RX1 29 "TandemExchange$Member" "partner" "I", Cond.methodLink RX1 32 yX1_has, Cond.methodLink RX1 74 yX1_fit, Cond.instanceMethod yX1_fit, Cond.selects RX1 yX1_fit yX1_fit, Cond.code yX1_fit cX1_fit 3 (some .boolean), Cond.methodLink RX1 62 yX1_lead]
def wsX5_want_r4 : List Cond := [Cond.instanceMethod yX1_lead, Cond.selects RX1 yX1_lead yX1_lead, Cond.code yX1_lead cX1_lead 4 (some .int), Cond.fieldLink RX1 36 "TandemExchange$Member" "levels" "[I", Cond.methodLink RX1 94 yX1_separate, Cond.instanceMethod yX1_separate, Cond.selects RX1 yX1_separate yX1_separate, Cond.code yX1_separate cX1_separate 3 none]
def wsX5_want : List Cond := .code yX5_want cX5_want 4 (some .int) :: ((wsX5_want_r1 ++ (wsX5_want_r2 ++ (wsX5_want_r3 ++ wsX5_want_r4))) ++ wsX50 ++ wsX10 ++ wsX30 ++ wsX20 ++ (vx_atS RX5 259 "java/lang/IndexOutOfBoundsException" ["java/lang/RuntimeException", "java/lang/Exception"]).filter goodWord ++ (vx_atS RX5 105 "java/lang/IllegalArgumentException" ["java/lang/RuntimeException", "java/lang/Exception"]).filter goodWord)
def wsX5_test_r1 : List Cond := [Cond.fieldLink RX5 29 "TandemExchange" "history" "LTandemExchange$History;", Cond.fieldLink RX5 19 "TandemExchange" "circle" "LTandemExchange$Circle;", Cond.fieldLink RX5 143 "TandemExchange$Circle" "members" "[LTandemExchange$Member;", Cond.fieldLink RX5 161 "TandemExchange$Member" "levels" "[I", Cond.methodLink RX5 106 yX5_requireMember, Cond.instanceMethod yX5_requireMember, Cond.selects RX5 yX5_requireMember yX5_requireMember, Cond.initialized RX5, Cond.code yX5_requireMember cX5_requireMember 2 none, Cond.classLink RX5 255 "java/lang/IndexOutOfBoundsException", Cond.initialized "java/lang/IndexOutOfBoundsException", Cond.methodLink RX5 252 yX1_has, Cond.instanceMethod yX1_has, Cond.selects RX1 yX1_has yX1_has, Cond.initialized RX1, Cond.code yX1_has cX1_has 2 (some .boolean), Cond.fieldLink RX1 18 "TandemExchange$Circle" "size" "I", Cond.methodLink RX5 133 yX5_requireLanguage, Cond.static yX5_requireLanguage, Cond.code yX5_requireLanguage cX5_requireLanguage 1 none, Cond.methodLink RX5 48 yX5_requireRange, Cond.static yX5_requireRange, Cond.code yX5_requireRange cX5_requireRange 3 none, Cond.classLink RX5 101 "java/lang/IllegalArgumentException"]
def wsX5_test_r2 : List Cond := [Cond.initialized "java/lang/IllegalArgumentException", Cond.methodLink RX5 138 yX2_remember, Cond.instanceMethod yX2_remember, Cond.selects RX2 yX2_remember yX2_remember, Cond.initialized RX2, Cond.code yX2_remember cX2_remember 2 none, Cond.fieldLink RX2 18 "TandemExchange$History" "count" "I", Cond.fieldLink RX2 22 "TandemExchange$History" "oldest" "I", Cond.fieldLink RX2 11 "TandemExchange$History" "states" "[LTandemExchange$Circle;", Cond.methodLink RX2 25 yX1_copyFrom, Cond.instanceMethod yX1_copyFrom, Cond.selects RX1 yX1_copyFrom yX1_copyFrom, Cond.code yX1_copyFrom cX1_copyFrom 3 none, Cond.fieldLink RX1 11 "TandemExchange$Circle" "members" "[LTandemExchange$Member;", Cond.fieldLink RX1 26 "TandemExchange$Circle" "weeks" "I", Cond.methodLink RX1 22 yX3_copyFrom, Cond.instanceMethod yX3_copyFrom, Cond.selects RX3 yX3_copyFrom yX3_copyFrom, Cond.initialized RX3, Cond.code yX3_copyFrom cX3_copyFrom 2 none, Cond.fieldLink RX3 9 "TandemExchange$Member" "levels" "[I", Cond.methodLink RX3 15 arraycopyName, Cond.native arraycopyName, Cond.static arraycopyName]
def wsX5_test_r3 : List Cond := [Cond.initialized "java/lang/System", Cond.fieldLink RX3 21 "TandemExchange$Member" "wants" "I", Cond.fieldLink RX3 25 "TandemExchange$Member" "progress" "I", Cond.fieldLink RX3 28 "TandemExchange$Member" "credits" "I", Cond.fieldLink RX3 31 "TandemExchange$Member" "missed" "I", Cond.fieldLink RX3 34 "TandemExchange$Member" "partner" "I", Cond.fieldLink RX3 37 "TandemExchange$Member" "missedInRow" "I", Cond.methodLink RX5 165 yX1_grade, Cond.instanceMethod yX1_grade, Cond.selects RX1 yX1_grade yX1_grade, Cond.code yX1_grade cX1_grade 5 none, Cond.fieldLink RX1 36 "TandemExchange$Member" "levels" "[I", Cond.fieldLink RX1 40 "TandemExchange$Member" "wants" "I", Cond.fieldLink RX1 43 "TandemExchange$Member" "progress" "I", Cond.methodLink RX1 98 yX1_separateIfUnfit, Cond.instanceMethod yX1_separateIfUnfit, Cond.selects RX1 yX1_separateIfUnfit yX1_separateIfUnfit, Cond.code yX1_separateIfUnfit cX1_separateIfUnfit 3 none, Cond.fieldLink RX1 29 "TandemExchange$Member" "partner" "I", Cond.methodLink RX1 32 yX1_has, Cond.methodLink RX1 74 yX1_fit, Cond.instanceMethod yX1_fit, Cond.selects RX1 yX1_fit yX1_fit, Cond.code yX1_fit cX1_fit 3 (some .boolean)]
def wsX5_test_r4 : List Cond := [Cond.methodLink RX1 62 yX1_lead, Cond.instanceMethod yX1_lead, Cond.selects RX1 yX1_lead yX1_lead, Cond.code yX1_lead cX1_lead 4 (some .int), Cond.methodLink RX1 94 yX1_separate, Cond.instanceMethod yX1_separate, Cond.selects RX1 yX1_separate yX1_separate, Cond.code yX1_separate cX1_separate 3 none]
def wsX5_test : List Cond := .code yX5_test cX5_test 5 (some .int) :: ((wsX5_test_r1 ++ (wsX5_test_r2 ++ (wsX5_test_r3 ++ wsX5_test_r4))) ++ wsX50 ++ wsX10 ++ wsX30 ++ wsX20 ++ (vx_atS RX5 259 "java/lang/IndexOutOfBoundsException" ["java/lang/RuntimeException", "java/lang/Exception"]).filter goodWord ++ (vx_atS RX5 105 "java/lang/IllegalArgumentException" ["java/lang/RuntimeException", "java/lang/Exception"]).filter goodWord)
def wsX5_pair_r1 : List Cond := [Cond.classLink RX5 56 "java/lang/IllegalStateException", Cond.initialized "java/lang/IllegalStateException", Cond.fieldLink RX5 19 "TandemExchange" "circle" "LTandemExchange$Circle;", Cond.fieldLink RX5 29 "TandemExchange" "history" "LTandemExchange$History;", Cond.methodLink RX5 114 yX5_requireTwoMembers, Cond.instanceMethod yX5_requireTwoMembers, Cond.selects RX5 yX5_requireTwoMembers yX5_requireTwoMembers, Cond.initialized RX5, Cond.code yX5_requireTwoMembers cX5_requireTwoMembers 3 none, Cond.classLink RX5 101 "java/lang/IllegalArgumentException", Cond.initialized "java/lang/IllegalArgumentException", Cond.methodLink RX5 106 yX5_requireMember, Cond.instanceMethod yX5_requireMember, Cond.selects RX5 yX5_requireMember yX5_requireMember, Cond.code yX5_requireMember cX5_requireMember 2 none, Cond.classLink RX5 255 "java/lang/IndexOutOfBoundsException", Cond.initialized "java/lang/IndexOutOfBoundsException", Cond.methodLink RX5 252 yX1_has, Cond.instanceMethod yX1_has, Cond.selects RX1 yX1_has yX1_has, Cond.initialized RX1, Cond.code yX1_has cX1_has 2 (some .boolean), Cond.fieldLink RX1 18 "TandemExchange$Circle" "size" "I", Cond.methodLink RX5 168 yX1_canBecomePartners]
def wsX5_pair_r2 : List Cond := [Cond.instanceMethod yX1_canBecomePartners, Cond.selects RX1 yX1_canBecomePartners yX1_canBecomePartners, Cond.code yX1_canBecomePartners cX1_canBecomePartners 3 (some .boolean), Cond.methodLink RX1 52 yX1_isFree, Cond.instanceMethod yX1_isFree, Cond.selects RX1 yX1_isFree yX1_isFree, Cond.code yX1_isFree cX1_isFree 2 (some .boolean), Cond.fieldLink RX1 11 "TandemExchange$Circle" "members" "[LTandemExchange$Member;", Cond.fieldLink RX1 29 "TandemExchange$Member" "partner" "I", Cond.methodLink RX1 74 yX1_fit, Cond.instanceMethod yX1_fit, Cond.selects RX1 yX1_fit yX1_fit, Cond.code yX1_fit cX1_fit 3 (some .boolean), Cond.methodLink RX1 62 yX1_lead, Cond.instanceMethod yX1_lead, Cond.selects RX1 yX1_lead yX1_lead, Cond.code yX1_lead cX1_lead 4 (some .int), Cond.fieldLink RX1 40 "TandemExchange$Member" "wants" "I", Cond.fieldLink RX1 36 "TandemExchange$Member" "levels" "[I", Cond.methodLink RX5 138 yX2_remember, Cond.instanceMethod yX2_remember, Cond.selects RX2 yX2_remember yX2_remember, Cond.initialized RX2, Cond.code yX2_remember cX2_remember 2 none]
def wsX5_pair_r3 : List Cond := [Cond.fieldLink RX2 18 "TandemExchange$History" "count" "I", Cond.fieldLink RX2 22 "TandemExchange$History" "oldest" "I", Cond.fieldLink RX2 11 "TandemExchange$History" "states" "[LTandemExchange$Circle;", Cond.methodLink RX2 25 yX1_copyFrom, Cond.instanceMethod yX1_copyFrom, Cond.selects RX1 yX1_copyFrom yX1_copyFrom, Cond.code yX1_copyFrom cX1_copyFrom 3 none, Cond.fieldLink RX1 26 "TandemExchange$Circle" "weeks" "I", Cond.methodLink RX1 22 yX3_copyFrom, Cond.instanceMethod yX3_copyFrom, Cond.selects RX3 yX3_copyFrom yX3_copyFrom, Cond.initialized RX3, Cond.code yX3_copyFrom cX3_copyFrom 2 none, Cond.fieldLink RX3 9 "TandemExchange$Member" "levels" "[I", Cond.methodLink RX3 15 arraycopyName, Cond.native arraycopyName, Cond.static arraycopyName, Cond.initialized "java/lang/System", Cond.fieldLink RX3 21 "TandemExchange$Member" "wants" "I", Cond.fieldLink RX3 25 "TandemExchange$Member" "progress" "I", Cond.fieldLink RX3 28 "TandemExchange$Member" "credits" "I", Cond.fieldLink RX3 31 "TandemExchange$Member" "missed" "I", Cond.fieldLink RX3 34 "TandemExchange$Member" "partner" "I", Cond.fieldLink RX3 37 "TandemExchange$Member" "missedInRow" "I"]
def wsX5_pair_r4 : List Cond := [Cond.methodLink RX5 173 yX1_unite, Cond.instanceMethod yX1_unite, Cond.selects RX1 yX1_unite yX1_unite, Cond.code yX1_unite cX1_unite 3 none, Cond.fieldLink RX1 55 "TandemExchange$Member" "missedInRow" "I", Cond.methodLink RX5 121 yX1_value, Cond.instanceMethod yX1_value, Cond.selects RX1 yX1_value yX1_value, Cond.code yX1_value cX1_value 3 (some .int), Cond.methodLink RX1 71 yX1_score, Cond.instanceMethod yX1_score, Cond.selects RX1 yX1_score yX1_score, Cond.code yX1_score cX1_score 4 (some .int), Cond.fieldLink RX1 49 "TandemExchange$Member" "missed" "I", Cond.fieldLink RX1 46 "TandemExchange$Member" "credits" "I", Cond.methodLink RX1 66 yJ9_floorDiv_7cf53, Cond.static yJ9_floorDiv_7cf53, Cond.initialized RJ9, Cond.code yJ9_floorDiv_7cf53 cJ9_floorDiv_7cf53 3 (some .int)]
def wsX5_pair : List Cond := .code yX5_pair cX5_pair 3 (some .int) :: ((wsX5_pair_r1 ++ (wsX5_pair_r2 ++ (wsX5_pair_r3 ++ wsX5_pair_r4))) ++ wsX50 ++ wsX10 ++ wsX30 ++ wsX20 ++ (vx_atS RX5 60 "java/lang/IllegalStateException" ["java/lang/RuntimeException", "java/lang/Exception"]).filter goodWord ++ (vx_atS RX5 105 "java/lang/IllegalArgumentException" ["java/lang/RuntimeException", "java/lang/Exception"]).filter goodWord ++ (vx_atS RX5 259 "java/lang/IndexOutOfBoundsException" ["java/lang/RuntimeException", "java/lang/Exception"]).filter goodWord)
def wsX5_requirePartner : List Cond := .code yX5_requirePartner cX5_requirePartner 2 none :: ([.classLink RX5 56 "java/lang/IllegalStateException", .initialized "java/lang/IllegalStateException", .fieldLink RX5 19 "TandemExchange" "circle" "LTandemExchange$Circle;", .methodLink RX5 205 yX1_isFree, .instanceMethod yX1_isFree, .selects RX1 yX1_isFree yX1_isFree, .initialized RX1, .code yX1_isFree cX1_isFree 2 (some .boolean), .fieldLink RX1 11 "TandemExchange$Circle" "members" "[LTandemExchange$Member;", .fieldLink RX1 29 "TandemExchange$Member" "partner" "I"] ++ wsX50 ++ wsX10 ++ wsX30 ++ (vx_atS RX5 60 "java/lang/IllegalStateException" ["java/lang/RuntimeException", "java/lang/Exception"]).filter goodWord)
def wsX5_part_r1 : List Cond := [Cond.fieldLink RX5 29 "TandemExchange" "history" "LTandemExchange$History;", Cond.fieldLink RX5 19 "TandemExchange" "circle" "LTandemExchange$Circle;", Cond.fieldLink RX5 143 "TandemExchange$Circle" "members" "[LTandemExchange$Member;", Cond.fieldLink RX5 179 "TandemExchange$Member" "partner" "I", Cond.methodLink RX5 106 yX5_requireMember, Cond.instanceMethod yX5_requireMember, Cond.selects RX5 yX5_requireMember yX5_requireMember, Cond.initialized RX5, Cond.code yX5_requireMember cX5_requireMember 2 none, Cond.classLink RX5 255 "java/lang/IndexOutOfBoundsException", Cond.initialized "java/lang/IndexOutOfBoundsException", Cond.methodLink RX5 252 yX1_has, Cond.instanceMethod yX1_has, Cond.selects RX1 yX1_has yX1_has, Cond.initialized RX1, Cond.code yX1_has cX1_has 2 (some .boolean), Cond.fieldLink RX1 18 "TandemExchange$Circle" "size" "I", Cond.methodLink RX5 176 yX5_requirePartner, Cond.instanceMethod yX5_requirePartner, Cond.selects RX5 yX5_requirePartner yX5_requirePartner, Cond.code yX5_requirePartner cX5_requirePartner 2 none, Cond.classLink RX5 56 "java/lang/IllegalStateException", Cond.initialized "java/lang/IllegalStateException", Cond.methodLink RX5 205 yX1_isFree]
def wsX5_part_r2 : List Cond := [Cond.instanceMethod yX1_isFree, Cond.selects RX1 yX1_isFree yX1_isFree, Cond.code yX1_isFree cX1_isFree 2 (some .boolean), Cond.fieldLink RX1 11 "TandemExchange$Circle" "members" "[LTandemExchange$Member;", Cond.fieldLink RX1 29 "TandemExchange$Member" "partner" "I", Cond.methodLink RX5 138 yX2_remember, Cond.instanceMethod yX2_remember, Cond.selects RX2 yX2_remember yX2_remember, Cond.initialized RX2, Cond.code yX2_remember cX2_remember 2 none, Cond.fieldLink RX2 18 "TandemExchange$History" "count" "I", Cond.fieldLink RX2 22 "TandemExchange$History" "oldest" "I", Cond.fieldLink RX2 11 "TandemExchange$History" "states" "[LTandemExchange$Circle;", Cond.methodLink RX2 25 yX1_copyFrom, Cond.instanceMethod yX1_copyFrom, Cond.selects RX1 yX1_copyFrom yX1_copyFrom, Cond.code yX1_copyFrom cX1_copyFrom 3 none, Cond.fieldLink RX1 26 "TandemExchange$Circle" "weeks" "I", Cond.methodLink RX1 22 yX3_copyFrom, Cond.instanceMethod yX3_copyFrom, Cond.selects RX3 yX3_copyFrom yX3_copyFrom, Cond.initialized RX3, Cond.code yX3_copyFrom cX3_copyFrom 2 none, Cond.fieldLink RX3 9 "TandemExchange$Member" "levels" "[I"]
def wsX5_part_r3 : List Cond := [Cond.methodLink RX3 15 arraycopyName, Cond.native arraycopyName, Cond.static arraycopyName, Cond.initialized "java/lang/System", Cond.fieldLink RX3 21 "TandemExchange$Member" "wants" "I", Cond.fieldLink RX3 25 "TandemExchange$Member" "progress" "I", Cond.fieldLink RX3 28 "TandemExchange$Member" "credits" "I", Cond.fieldLink RX3 31 "TandemExchange$Member" "missed" "I", Cond.fieldLink RX3 34 "TandemExchange$Member" "partner" "I", Cond.fieldLink RX3 37 "TandemExchange$Member" "missedInRow" "I", Cond.methodLink RX5 182 yX1_separate, Cond.instanceMethod yX1_separate, Cond.selects RX1 yX1_separate yX1_separate, Cond.code yX1_separate cX1_separate 3 none, Cond.methodLink RX1 32 yX1_has]
def wsX5_part : List Cond := .code yX5_part cX5_part 3 (some .int) :: ((wsX5_part_r1 ++ (wsX5_part_r2 ++ wsX5_part_r3)) ++ wsX50 ++ wsX10 ++ wsX30 ++ wsX20 ++ (vx_atS RX5 259 "java/lang/IndexOutOfBoundsException" ["java/lang/RuntimeException", "java/lang/Exception"]).filter goodWord ++ (vx_atS RX5 60 "java/lang/IllegalStateException" ["java/lang/RuntimeException", "java/lang/Exception"]).filter goodWord)
def wsX5_match_r1 : List Cond := [Cond.fieldLink RX5 29 "TandemExchange" "history" "LTandemExchange$History;", Cond.fieldLink RX5 19 "TandemExchange" "circle" "LTandemExchange$Circle;", Cond.methodLink RX5 138 yX2_remember, Cond.instanceMethod yX2_remember, Cond.selects RX2 yX2_remember yX2_remember, Cond.initialized RX2, Cond.code yX2_remember cX2_remember 2 none, Cond.fieldLink RX2 18 "TandemExchange$History" "count" "I", Cond.fieldLink RX2 22 "TandemExchange$History" "oldest" "I", Cond.fieldLink RX2 11 "TandemExchange$History" "states" "[LTandemExchange$Circle;", Cond.methodLink RX2 25 yX1_copyFrom, Cond.instanceMethod yX1_copyFrom, Cond.selects RX1 yX1_copyFrom yX1_copyFrom, Cond.initialized RX1, Cond.code yX1_copyFrom cX1_copyFrom 3 none, Cond.fieldLink RX1 18 "TandemExchange$Circle" "size" "I", Cond.fieldLink RX1 11 "TandemExchange$Circle" "members" "[LTandemExchange$Member;", Cond.fieldLink RX1 26 "TandemExchange$Circle" "weeks" "I", Cond.methodLink RX1 22 yX3_copyFrom, Cond.instanceMethod yX3_copyFrom, Cond.selects RX3 yX3_copyFrom yX3_copyFrom, Cond.initialized RX3, Cond.code yX3_copyFrom cX3_copyFrom 2 none, Cond.fieldLink RX3 9 "TandemExchange$Member" "levels" "[I"]
def wsX5_match_r2 : List Cond := [Cond.methodLink RX3 15 arraycopyName, Cond.native arraycopyName, Cond.static arraycopyName, Cond.initialized "java/lang/System", Cond.fieldLink RX3 21 "TandemExchange$Member" "wants" "I", Cond.fieldLink RX3 25 "TandemExchange$Member" "progress" "I", Cond.fieldLink RX3 28 "TandemExchange$Member" "credits" "I", Cond.fieldLink RX3 31 "TandemExchange$Member" "missed" "I", Cond.fieldLink RX3 34 "TandemExchange$Member" "partner" "I", Cond.fieldLink RX3 37 "TandemExchange$Member" "missedInRow" "I", Cond.methodLink RX5 185 yX1_matchFree, Cond.instanceMethod yX1_matchFree, Cond.selects RX1 yX1_matchFree yX1_matchFree, Cond.code yX1_matchFree cX1_matchFree 2 (some .int), Cond.methodLink RX1 101 yX1_uniteBestFreePair, Cond.instanceMethod yX1_uniteBestFreePair, Cond.selects RX1 yX1_uniteBestFreePair yX1_uniteBestFreePair, Cond.code yX1_uniteBestFreePair cX1_uniteBestFreePair 6 (some .boolean), Cond.methodLink RX1 105 yX1_canBecomePartners, Cond.instanceMethod yX1_canBecomePartners, Cond.selects RX1 yX1_canBecomePartners yX1_canBecomePartners, Cond.code yX1_canBecomePartners cX1_canBecomePartners 3 (some .boolean), Cond.methodLink RX1 52 yX1_isFree, Cond.instanceMethod yX1_isFree]
def wsX5_match_r3 : List Cond := [Cond.selects RX1 yX1_isFree yX1_isFree, Cond.code yX1_isFree cX1_isFree 2 (some .boolean), Cond.fieldLink RX1 29 "TandemExchange$Member" "partner" "I", Cond.methodLink RX1 74 yX1_fit, Cond.instanceMethod yX1_fit, Cond.selects RX1 yX1_fit yX1_fit, Cond.code yX1_fit cX1_fit 3 (some .boolean), Cond.methodLink RX1 62 yX1_lead, Cond.instanceMethod yX1_lead, Cond.selects RX1 yX1_lead yX1_lead, Cond.code yX1_lead cX1_lead 4 (some .int), Cond.fieldLink RX1 40 "TandemExchange$Member" "wants" "I", Cond.fieldLink RX1 36 "TandemExchange$Member" "levels" "[I", Cond.methodLink RX1 84 yX1_value, Cond.instanceMethod yX1_value, Cond.selects RX1 yX1_value yX1_value, Cond.code yX1_value cX1_value 3 (some .int), Cond.methodLink RX1 71 yX1_score, Cond.instanceMethod yX1_score, Cond.selects RX1 yX1_score yX1_score, Cond.code yX1_score cX1_score 4 (some .int), Cond.fieldLink RX1 49 "TandemExchange$Member" "missed" "I", Cond.fieldLink RX1 46 "TandemExchange$Member" "credits" "I", Cond.methodLink RX1 66 yJ9_floorDiv_7cf53]
def wsX5_match_r4 : List Cond := [Cond.static yJ9_floorDiv_7cf53, Cond.initialized RJ9, Cond.code yJ9_floorDiv_7cf53 cJ9_floorDiv_7cf53 3 (some .int), Cond.methodLink RX1 32 yX1_has, Cond.instanceMethod yX1_has, Cond.selects RX1 yX1_has yX1_has, Cond.code yX1_has cX1_has 2 (some .boolean), Cond.methodLink RX1 108 yX1_unite, Cond.instanceMethod yX1_unite, Cond.selects RX1 yX1_unite yX1_unite, Cond.code yX1_unite cX1_unite 3 none, Cond.fieldLink RX1 55 "TandemExchange$Member" "missedInRow" "I"]
def wsX5_match : List Cond := .code yX5_match cX5_match 1 (some .int) :: ((wsX5_match_r1 ++ (wsX5_match_r2 ++ (wsX5_match_r3 ++ wsX5_match_r4))) ++ wsX50 ++ wsX20 ++ wsX10 ++ wsX30)
def wsX5_settle_r1 : List Cond := [Cond.fieldLink RX5 29 "TandemExchange" "history" "LTandemExchange$History;", Cond.fieldLink RX5 19 "TandemExchange" "circle" "LTandemExchange$Circle;", Cond.methodLink RX5 48 yX5_requireRange, Cond.static yX5_requireRange, Cond.initialized RX5, Cond.code yX5_requireRange cX5_requireRange 3 none, Cond.classLink RX5 101 "java/lang/IllegalArgumentException", Cond.initialized "java/lang/IllegalArgumentException", Cond.methodLink RX5 138 yX2_remember, Cond.instanceMethod yX2_remember, Cond.selects RX2 yX2_remember yX2_remember, Cond.initialized RX2, Cond.code yX2_remember cX2_remember 2 none, Cond.fieldLink RX2 18 "TandemExchange$History" "count" "I", Cond.fieldLink RX2 22 "TandemExchange$History" "oldest" "I", Cond.fieldLink RX2 11 "TandemExchange$History" "states" "[LTandemExchange$Circle;", Cond.methodLink RX2 25 yX1_copyFrom, Cond.instanceMethod yX1_copyFrom, Cond.selects RX1 yX1_copyFrom yX1_copyFrom, Cond.initialized RX1, Cond.code yX1_copyFrom cX1_copyFrom 3 none, Cond.fieldLink RX1 18 "TandemExchange$Circle" "size" "I", Cond.fieldLink RX1 11 "TandemExchange$Circle" "members" "[LTandemExchange$Member;", Cond.fieldLink RX1 26 "TandemExchange$Circle" "weeks" "I"]
def wsX5_settle_r2 : List Cond := [Cond.methodLink RX1 22 yX3_copyFrom, Cond.instanceMethod yX3_copyFrom, Cond.selects RX3 yX3_copyFrom yX3_copyFrom, Cond.initialized RX3, Cond.code yX3_copyFrom cX3_copyFrom 2 none, Cond.fieldLink RX3 9 "TandemExchange$Member" "levels" "[I", Cond.methodLink RX3 15 arraycopyName, Cond.native arraycopyName, Cond.static arraycopyName, Cond.initialized "java/lang/System", Cond.fieldLink RX3 21 "TandemExchange$Member" "wants" "I", Cond.fieldLink RX3 25 "TandemExchange$Member" "progress" "I", Cond.fieldLink RX3 28 "TandemExchange$Member" "credits" "I", Cond.fieldLink RX3 31 "TandemExchange$Member" "missed" "I", Cond.fieldLink RX3 34 "TandemExchange$Member" "partner" "I", Cond.fieldLink RX3 37 "TandemExchange$Member" "missedInRow" "I", Cond.methodLink RX5 188 yX1_settleBy, Cond.instanceMethod yX1_settleBy, Cond.selects RX1 yX1_settleBy yX1_settleBy, Cond.code yX1_settleBy cX1_settleBy 3 (some .int), Cond.methodLink RX1 112 yX1_uniteFirstBlockingPair, Cond.instanceMethod yX1_uniteFirstBlockingPair, Cond.selects RX1 yX1_uniteFirstBlockingPair yX1_uniteFirstBlockingPair, Cond.code yX1_uniteFirstBlockingPair cX1_uniteFirstBlockingPair 3 (some .boolean)]
def wsX5_settle_r3 : List Cond := [Cond.methodLink RX1 87 yX1_block, Cond.instanceMethod yX1_block, Cond.selects RX1 yX1_block yX1_block, Cond.code yX1_block cX1_block 3 (some .boolean), Cond.fieldLink RX1 29 "TandemExchange$Member" "partner" "I", Cond.methodLink RX1 74 yX1_fit, Cond.instanceMethod yX1_fit, Cond.selects RX1 yX1_fit yX1_fit, Cond.code yX1_fit cX1_fit 3 (some .boolean), Cond.methodLink RX1 62 yX1_lead, Cond.instanceMethod yX1_lead, Cond.selects RX1 yX1_lead yX1_lead, Cond.code yX1_lead cX1_lead 4 (some .int), Cond.fieldLink RX1 40 "TandemExchange$Member" "wants" "I", Cond.fieldLink RX1 36 "TandemExchange$Member" "levels" "[I", Cond.methodLink RX1 78 yX1_prefers, Cond.instanceMethod yX1_prefers, Cond.selects RX1 yX1_prefers yX1_prefers, Cond.code yX1_prefers cX1_prefers 4 (some .boolean), Cond.methodLink RX1 32 yX1_has, Cond.instanceMethod yX1_has, Cond.selects RX1 yX1_has yX1_has, Cond.code yX1_has cX1_has 2 (some .boolean), Cond.methodLink RX1 71 yX1_score]
def wsX5_settle_r4 : List Cond := [Cond.instanceMethod yX1_score, Cond.selects RX1 yX1_score yX1_score, Cond.code yX1_score cX1_score 4 (some .int), Cond.fieldLink RX1 49 "TandemExchange$Member" "missed" "I", Cond.fieldLink RX1 46 "TandemExchange$Member" "credits" "I", Cond.methodLink RX1 66 yJ9_floorDiv_7cf53, Cond.static yJ9_floorDiv_7cf53, Cond.initialized RJ9, Cond.code yJ9_floorDiv_7cf53 cJ9_floorDiv_7cf53 3 (some .int), Cond.methodLink RX1 94 yX1_separate, Cond.instanceMethod yX1_separate, Cond.selects RX1 yX1_separate yX1_separate, Cond.code yX1_separate cX1_separate 3 none, Cond.methodLink RX1 108 yX1_unite, Cond.instanceMethod yX1_unite, Cond.selects RX1 yX1_unite yX1_unite, Cond.code yX1_unite cX1_unite 3 none, Cond.fieldLink RX1 55 "TandemExchange$Member" "missedInRow" "I"]
def wsX5_settle : List Cond := .code yX5_settle cX5_settle 2 (some .int) :: ((wsX5_settle_r1 ++ (wsX5_settle_r2 ++ (wsX5_settle_r3 ++ wsX5_settle_r4))) ++ wsX50 ++ wsX20 ++ wsX10 ++ wsX30 ++ (vx_atS RX5 105 "java/lang/IllegalArgumentException" ["java/lang/RuntimeException", "java/lang/Exception"]).filter goodWord)
def wsX5_week_r1 : List Cond := [Cond.fieldLink RX5 29 "TandemExchange" "history" "LTandemExchange$History;", Cond.fieldLink RX5 19 "TandemExchange" "circle" "LTandemExchange$Circle;", Cond.methodLink RX5 48 yX5_requireRange, Cond.static yX5_requireRange, Cond.initialized RX5, Cond.code yX5_requireRange cX5_requireRange 3 none, Cond.classLink RX5 101 "java/lang/IllegalArgumentException", Cond.initialized "java/lang/IllegalArgumentException", Cond.methodLink RX5 138 yX2_remember, Cond.instanceMethod yX2_remember, Cond.selects RX2 yX2_remember yX2_remember, Cond.initialized RX2, Cond.code yX2_remember cX2_remember 2 none, Cond.fieldLink RX2 18 "TandemExchange$History" "count" "I", Cond.fieldLink RX2 22 "TandemExchange$History" "oldest" "I", Cond.fieldLink RX2 11 "TandemExchange$History" "states" "[LTandemExchange$Circle;", Cond.methodLink RX2 25 yX1_copyFrom, Cond.instanceMethod yX1_copyFrom, Cond.selects RX1 yX1_copyFrom yX1_copyFrom, Cond.initialized RX1, Cond.code yX1_copyFrom cX1_copyFrom 3 none, Cond.fieldLink RX1 18 "TandemExchange$Circle" "size" "I", Cond.fieldLink RX1 11 "TandemExchange$Circle" "members" "[LTandemExchange$Member;", Cond.fieldLink RX1 26 "TandemExchange$Circle" "weeks" "I"]
def wsX5_week_r2 : List Cond := [Cond.methodLink RX1 22 yX3_copyFrom, Cond.instanceMethod yX3_copyFrom, Cond.selects RX3 yX3_copyFrom yX3_copyFrom, Cond.initialized RX3, Cond.code yX3_copyFrom cX3_copyFrom 2 none, Cond.fieldLink RX3 9 "TandemExchange$Member" "levels" "[I", Cond.methodLink RX3 15 arraycopyName, Cond.native arraycopyName, Cond.static arraycopyName, Cond.initialized "java/lang/System", Cond.fieldLink RX3 21 "TandemExchange$Member" "wants" "I", Cond.fieldLink RX3 25 "TandemExchange$Member" "progress" "I", Cond.fieldLink RX3 28 "TandemExchange$Member" "credits" "I", Cond.fieldLink RX3 31 "TandemExchange$Member" "missed" "I", Cond.fieldLink RX3 34 "TandemExchange$Member" "partner" "I", Cond.fieldLink RX3 37 "TandemExchange$Member" "missedInRow" "I", Cond.methodLink RX5 192 yX1_passWeek, Cond.instanceMethod yX1_passWeek, Cond.selects RX1 yX1_passWeek yX1_passWeek, Cond.code yX1_passWeek cX1_passWeek 4 none, Cond.fieldLink RX1 55 "TandemExchange$Member" "missedInRow" "I", Cond.methodLink RX1 81 yX1_greaterPartner, Cond.instanceMethod yX1_greaterPartner, Cond.selects RX1 yX1_greaterPartner yX1_greaterPartner]
def wsX5_week_r3 : List Cond := [Cond.code yX1_greaterPartner cX1_greaterPartner 3 (some .int), Cond.fieldLink RX1 29 "TandemExchange$Member" "partner" "I", Cond.methodLink RX1 32 yX1_has, Cond.instanceMethod yX1_has, Cond.selects RX1 yX1_has yX1_has, Cond.code yX1_has cX1_has 2 (some .boolean), Cond.methodLink RX1 115 yX1_passWeekOfPair, Cond.instanceMethod yX1_passWeekOfPair, Cond.selects RX1 yX1_passWeekOfPair yX1_passWeekOfPair, Cond.code yX1_passWeekOfPair cX1_passWeekOfPair 8 none, Cond.methodLink RX1 118 yX3_failToMeet, Cond.instanceMethod yX3_failToMeet, Cond.selects RX3 yX3_failToMeet yX3_failToMeet, Cond.code yX3_failToMeet cX3_failToMeet 2 none, Cond.methodLink RX3 49 yX3_gainCredits, Cond.instanceMethod yX3_gainCredits, Cond.selects RX3 yX3_gainCredits yX3_gainCredits, Cond.code yX3_gainCredits cX3_gainCredits 2 none, Cond.methodLink RX3 40 Lib.Math.min.name, Cond.static Lib.Math.min.name, Cond.initialized "java/lang/Math", Cond.code Lib.Math.min.name Lib.Math.min.code 2 (some .int), Cond.methodLink RX3 46 Lib.Math.max.name, Cond.static Lib.Math.max.name]
def wsX5_week_r4 : List Cond := [Cond.code Lib.Math.max.name Lib.Math.max.code 2 (some .int), Cond.methodLink RX1 122 yX1_pointsOfMeeting, Cond.instanceMethod yX1_pointsOfMeeting, Cond.selects RX1 yX1_pointsOfMeeting yX1_pointsOfMeeting, Cond.code yX1_pointsOfMeeting cX1_pointsOfMeeting 3 (some .int), Cond.methodLink RX1 128 Lib.Math.max.name, Cond.methodLink RX1 62 yX1_lead, Cond.instanceMethod yX1_lead, Cond.selects RX1 yX1_lead yX1_lead, Cond.code yX1_lead cX1_lead 4 (some .int), Cond.fieldLink RX1 40 "TandemExchange$Member" "wants" "I", Cond.fieldLink RX1 36 "TandemExchange$Member" "levels" "[I", Cond.methodLink RX1 125 yX3_meet, Cond.instanceMethod yX3_meet, Cond.selects RX3 yX3_meet yX3_meet, Cond.code yX3_meet cX3_meet 2 none, Cond.methodLink RX3 53 yX3_learn, Cond.instanceMethod yX3_learn, Cond.selects RX3 yX3_learn yX3_learn, Cond.code yX3_learn cX3_learn 2 none, Cond.methodLink RX1 74 yX1_fit, Cond.instanceMethod yX1_fit, Cond.selects RX1 yX1_fit yX1_fit, Cond.code yX1_fit cX1_fit 3 (some .boolean)]
def wsX5_week_r5 : List Cond := [Cond.methodLink RX1 94 yX1_separate, Cond.instanceMethod yX1_separate, Cond.selects RX1 yX1_separate yX1_separate, Cond.code yX1_separate cX1_separate 3 none, Cond.methodLink RX5 83 yX1_countPairs, Cond.instanceMethod yX1_countPairs, Cond.selects RX1 yX1_countPairs yX1_countPairs, Cond.code yX1_countPairs cX1_countPairs 3 (some .int)]
def wsX5_week : List Cond := .code yX5_week cX5_week 2 (some .int) :: ((wsX5_week_r1 ++ (wsX5_week_r2 ++ (wsX5_week_r3 ++ (wsX5_week_r4 ++ wsX5_week_r5)))) ++ wsX50 ++ wsX20 ++ wsX10 ++ wsX30 ++ (vx_atS RX5 105 "java/lang/IllegalArgumentException" ["java/lang/RuntimeException", "java/lang/Exception"]).filter goodWord)
def wsX5_undo_r1 : List Cond := [Cond.classLink RX5 56 "java/lang/IllegalStateException", Cond.initialized "java/lang/IllegalStateException", Cond.fieldLink RX5 29 "TandemExchange" "history" "LTandemExchange$History;", Cond.fieldLink RX5 195 "TandemExchange$History" "count" "I", Cond.fieldLink RX5 19 "TandemExchange" "circle" "LTandemExchange$Circle;", Cond.methodLink RX5 200 yX2_takeBack, Cond.instanceMethod yX2_takeBack, Cond.selects RX2 yX2_takeBack yX2_takeBack, Cond.initialized RX2, Cond.code yX2_takeBack cX2_takeBack 2 none, Cond.fieldLink RX2 18 "TandemExchange$History" "count" "I", Cond.fieldLink RX2 11 "TandemExchange$History" "states" "[LTandemExchange$Circle;", Cond.fieldLink RX2 22 "TandemExchange$History" "oldest" "I", Cond.methodLink RX2 25 yX1_copyFrom, Cond.instanceMethod yX1_copyFrom, Cond.selects RX1 yX1_copyFrom yX1_copyFrom, Cond.initialized RX1, Cond.code yX1_copyFrom cX1_copyFrom 3 none, Cond.fieldLink RX1 18 "TandemExchange$Circle" "size" "I", Cond.fieldLink RX1 11 "TandemExchange$Circle" "members" "[LTandemExchange$Member;", Cond.fieldLink RX1 26 "TandemExchange$Circle" "weeks" "I", Cond.methodLink RX1 22 yX3_copyFrom, Cond.instanceMethod yX3_copyFrom, Cond.selects RX3 yX3_copyFrom yX3_copyFrom]
def wsX5_undo_r2 : List Cond := [Cond.initialized RX3, Cond.code yX3_copyFrom cX3_copyFrom 2 none, Cond.fieldLink RX3 9 "TandemExchange$Member" "levels" "[I", Cond.methodLink RX3 15 arraycopyName, Cond.native arraycopyName, Cond.static arraycopyName, Cond.initialized "java/lang/System", Cond.fieldLink RX3 21 "TandemExchange$Member" "wants" "I", Cond.fieldLink RX3 25 "TandemExchange$Member" "progress" "I", Cond.fieldLink RX3 28 "TandemExchange$Member" "credits" "I", Cond.fieldLink RX3 31 "TandemExchange$Member" "missed" "I", Cond.fieldLink RX3 34 "TandemExchange$Member" "partner" "I", Cond.fieldLink RX3 37 "TandemExchange$Member" "missedInRow" "I"]
def wsX5_undo : List Cond := .code yX5_undo cX5_undo 1 (some .int) :: ((wsX5_undo_r1 ++ wsX5_undo_r2) ++ wsX50 ++ wsX20 ++ wsX10 ++ wsX30 ++ (vx_atS RX5 60 "java/lang/IllegalStateException" ["java/lang/RuntimeException", "java/lang/Exception"]).filter goodWord)
def wsX5_blocking_r1 : List Cond := [Cond.classLink RX5 101 "java/lang/IllegalArgumentException", Cond.initialized "java/lang/IllegalArgumentException", Cond.fieldLink RX5 19 "TandemExchange" "circle" "LTandemExchange$Circle;", Cond.fieldLink RX5 80 "TandemExchange$Circle" "size" "I", Cond.methodLink RX5 128 yX1_block, Cond.instanceMethod yX1_block, Cond.selects RX1 yX1_block yX1_block, Cond.initialized RX1, Cond.code yX1_block cX1_block 3 (some .boolean), Cond.fieldLink RX1 11 "TandemExchange$Circle" "members" "[LTandemExchange$Member;", Cond.fieldLink RX1 29 "TandemExchange$Member" "partner" "I", Cond.methodLink RX1 74 yX1_fit, Cond.instanceMethod yX1_fit, Cond.selects RX1 yX1_fit yX1_fit, Cond.code yX1_fit cX1_fit 3 (some .boolean), Cond.methodLink RX1 62 yX1_lead, Cond.instanceMethod yX1_lead, Cond.selects RX1 yX1_lead yX1_lead, Cond.code yX1_lead cX1_lead 4 (some .int), Cond.fieldLink RX1 40 "TandemExchange$Member" "wants" "I", Cond.fieldLink RX1 36 "TandemExchange$Member" "levels" "[I", Cond.methodLink RX1 78 yX1_prefers, Cond.instanceMethod yX1_prefers, Cond.selects RX1 yX1_prefers yX1_prefers]
def wsX5_blocking_r2 : List Cond := [Cond.code yX1_prefers cX1_prefers 4 (some .boolean), Cond.methodLink RX1 32 yX1_has, Cond.instanceMethod yX1_has, Cond.selects RX1 yX1_has yX1_has, Cond.code yX1_has cX1_has 2 (some .boolean), Cond.fieldLink RX1 18 "TandemExchange$Circle" "size" "I", Cond.methodLink RX1 71 yX1_score, Cond.instanceMethod yX1_score, Cond.selects RX1 yX1_score yX1_score, Cond.code yX1_score cX1_score 4 (some .int), Cond.fieldLink RX1 49 "TandemExchange$Member" "missed" "I", Cond.fieldLink RX1 46 "TandemExchange$Member" "credits" "I", Cond.methodLink RX1 66 yJ9_floorDiv_7cf53, Cond.static yJ9_floorDiv_7cf53, Cond.initialized RJ9, Cond.code yJ9_floorDiv_7cf53 cJ9_floorDiv_7cf53 3 (some .int)]
def wsX5_blocking : List Cond := .code yX5_blocking cX5_blocking 6 (some .int) :: ((wsX5_blocking_r1 ++ wsX5_blocking_r2) ++ wsX50 ++ wsX10 ++ wsX30 ++ (vx_atS RX5 105 "java/lang/IllegalArgumentException" ["java/lang/RuntimeException", "java/lang/Exception"]).filter goodWord)
def wsX5_bestPartner_r1 : List Cond := [Cond.fieldLink RX5 19 "TandemExchange" "circle" "LTandemExchange$Circle;", Cond.fieldLink RX5 80 "TandemExchange$Circle" "size" "I", Cond.methodLink RX5 106 yX5_requireMember, Cond.instanceMethod yX5_requireMember, Cond.selects RX5 yX5_requireMember yX5_requireMember, Cond.initialized RX5, Cond.code yX5_requireMember cX5_requireMember 2 none, Cond.classLink RX5 255 "java/lang/IndexOutOfBoundsException", Cond.initialized "java/lang/IndexOutOfBoundsException", Cond.methodLink RX5 252 yX1_has, Cond.instanceMethod yX1_has, Cond.selects RX1 yX1_has yX1_has, Cond.initialized RX1, Cond.code yX1_has cX1_has 2 (some .boolean), Cond.fieldLink RX1 18 "TandemExchange$Circle" "size" "I", Cond.methodLink RX5 124 yX1_fit, Cond.instanceMethod yX1_fit, Cond.selects RX1 yX1_fit yX1_fit, Cond.code yX1_fit cX1_fit 3 (some .boolean), Cond.methodLink RX1 62 yX1_lead, Cond.instanceMethod yX1_lead, Cond.selects RX1 yX1_lead yX1_lead, Cond.code yX1_lead cX1_lead 4 (some .int), Cond.fieldLink RX1 11 "TandemExchange$Circle" "members" "[LTandemExchange$Member;"]
def wsX5_bestPartner_r2 : List Cond := [Cond.fieldLink RX1 40 "TandemExchange$Member" "wants" "I", Cond.fieldLink RX1 36 "TandemExchange$Member" "levels" "[I", Cond.methodLink RX5 205 yX1_isFree, Cond.instanceMethod yX1_isFree, Cond.selects RX1 yX1_isFree yX1_isFree, Cond.code yX1_isFree cX1_isFree 2 (some .boolean), Cond.fieldLink RX1 29 "TandemExchange$Member" "partner" "I", Cond.methodLink RX5 118 yX1_score, Cond.instanceMethod yX1_score, Cond.selects RX1 yX1_score yX1_score, Cond.code yX1_score cX1_score 4 (some .int), Cond.fieldLink RX1 49 "TandemExchange$Member" "missed" "I", Cond.fieldLink RX1 46 "TandemExchange$Member" "credits" "I", Cond.methodLink RX1 66 yJ9_floorDiv_7cf53, Cond.static yJ9_floorDiv_7cf53, Cond.initialized RJ9, Cond.code yJ9_floorDiv_7cf53 cJ9_floorDiv_7cf53 3 (some .int)]
def wsX5_bestPartner : List Cond := .code yX5_bestPartner cX5_bestPartner 7 (some .int) :: ((wsX5_bestPartner_r1 ++ wsX5_bestPartner_r2) ++ wsX50 ++ wsX10 ++ wsX30 ++ (vx_atS RX5 259 "java/lang/IndexOutOfBoundsException" ["java/lang/RuntimeException", "java/lang/Exception"]).filter goodWord)
def wsX5_best_r1 : List Cond := [Cond.fieldLink RX5 44 "TandemExchange" "bestMatching" "LTandemExchange$BestMatching;", Cond.fieldLink RX5 19 "TandemExchange" "circle" "LTandemExchange$Circle;", Cond.methodLink RX5 48 yX5_requireRange, Cond.static yX5_requireRange, Cond.initialized RX5, Cond.code yX5_requireRange cX5_requireRange 3 none, Cond.classLink RX5 101 "java/lang/IllegalArgumentException", Cond.initialized "java/lang/IllegalArgumentException", Cond.methodLink RX5 209 yX0_fill, Cond.instanceMethod yX0_fill, Cond.selects RX0 yX0_fill yX0_fill, Cond.initialized RX0, Cond.code yX0_fill cX0_fill 5 none, Cond.fieldLink RX0 9 "TandemExchange$BestMatching" "ranks" "[I", Cond.fieldLink RX0 15 "TandemExchange$Circle" "size" "I", Cond.methodLink RX0 21 yX0_rankWith, Cond.instanceMethod yX0_rankWith, Cond.selects RX0 yX0_rankWith yX0_rankWith, Cond.code yX0_rankWith cX0_rankWith 7 (some .int), Cond.constant RX0 29 (1000000), Cond.methodLink RX0 34 Lib.Math.max.name, Cond.static Lib.Math.max.name, Cond.initialized "java/lang/Math", Cond.code Lib.Math.max.name Lib.Math.max.code 2 (some .int)]
def wsX5_best_r2 : List Cond := [Cond.methodLink RX0 25 yX1_fit, Cond.instanceMethod yX1_fit, Cond.selects RX1 yX1_fit yX1_fit, Cond.initialized RX1, Cond.code yX1_fit cX1_fit 3 (some .boolean), Cond.methodLink RX1 62 yX1_lead, Cond.instanceMethod yX1_lead, Cond.selects RX1 yX1_lead yX1_lead, Cond.code yX1_lead cX1_lead 4 (some .int), Cond.fieldLink RX1 11 "TandemExchange$Circle" "members" "[LTandemExchange$Member;", Cond.fieldLink RX1 40 "TandemExchange$Member" "wants" "I", Cond.fieldLink RX1 36 "TandemExchange$Member" "levels" "[I", Cond.methodLink RX0 30 yX1_value, Cond.instanceMethod yX1_value, Cond.selects RX1 yX1_value yX1_value, Cond.code yX1_value cX1_value 3 (some .int), Cond.methodLink RX1 71 yX1_score, Cond.instanceMethod yX1_score, Cond.selects RX1 yX1_score yX1_score, Cond.code yX1_score cX1_score 4 (some .int), Cond.fieldLink RX1 49 "TandemExchange$Member" "missed" "I", Cond.fieldLink RX1 46 "TandemExchange$Member" "credits" "I", Cond.methodLink RX1 66 yJ9_floorDiv_7cf53, Cond.static yJ9_floorDiv_7cf53]
def wsX5_best_r3 : List Cond := [Cond.initialized RJ9, Cond.code yJ9_floorDiv_7cf53 cJ9_floorDiv_7cf53 3 (some .int), Cond.methodLink RX5 212 yX0_rankOfAll, Cond.instanceMethod yX0_rankOfAll, Cond.selects RX0 yX0_rankOfAll yX0_rankOfAll, Cond.code yX0_rankOfAll cX0_rankOfAll 2 (some .int), Cond.methodLink RX5 216 yX0_pairsOf, Cond.instanceMethod yX0_pairsOf, Cond.selects RX0 yX0_pairsOf yX0_pairsOf, Cond.code yX0_pairsOf cX0_pairsOf 2 (some .int), Cond.constant RX0 39 (500000), Cond.methodLink RX0 40 yJ9_floorDiv_7cf53, Cond.methodLink RX5 219 yX0_sumOf, Cond.instanceMethod yX0_sumOf, Cond.selects RX0 yX0_sumOf yX0_sumOf, Cond.code yX0_sumOf cX0_sumOf 2 (some .int), Cond.methodLink RX0 43 yX0_pairsOf]
def wsX5_best : List Cond := .code yX5_best cX5_best 3 (some .int) :: ((wsX5_best_r1 ++ (wsX5_best_r2 ++ wsX5_best_r3)) ++ wsX50 ++ wsX00 ++ wsX10 ++ wsX30 ++ (vx_atS RX5 105 "java/lang/IllegalArgumentException" ["java/lang/RuntimeException", "java/lang/Exception"]).filter goodWord)
def wsX5_missedMost_r1 : List Cond := [Cond.fieldLink RX5 44 "TandemExchange" "bestMatching" "LTandemExchange$BestMatching;", Cond.fieldLink RX5 19 "TandemExchange" "circle" "LTandemExchange$Circle;", Cond.fieldLink RX5 80 "TandemExchange$Circle" "size" "I", Cond.methodLink RX5 209 yX0_fill, Cond.instanceMethod yX0_fill, Cond.selects RX0 yX0_fill yX0_fill, Cond.initialized RX0, Cond.code yX0_fill cX0_fill 5 none, Cond.fieldLink RX0 9 "TandemExchange$BestMatching" "ranks" "[I", Cond.fieldLink RX0 15 "TandemExchange$Circle" "size" "I", Cond.methodLink RX0 21 yX0_rankWith, Cond.instanceMethod yX0_rankWith, Cond.selects RX0 yX0_rankWith yX0_rankWith, Cond.code yX0_rankWith cX0_rankWith 7 (some .int), Cond.constant RX0 29 (1000000), Cond.methodLink RX0 34 Lib.Math.max.name, Cond.static Lib.Math.max.name, Cond.initialized "java/lang/Math", Cond.code Lib.Math.max.name Lib.Math.max.code 2 (some .int), Cond.methodLink RX0 25 yX1_fit, Cond.instanceMethod yX1_fit, Cond.selects RX1 yX1_fit yX1_fit, Cond.initialized RX1, Cond.code yX1_fit cX1_fit 3 (some .boolean)]
def wsX5_missedMost_r2 : List Cond := [Cond.methodLink RX1 62 yX1_lead, Cond.instanceMethod yX1_lead, Cond.selects RX1 yX1_lead yX1_lead, Cond.code yX1_lead cX1_lead 4 (some .int), Cond.fieldLink RX1 11 "TandemExchange$Circle" "members" "[LTandemExchange$Member;", Cond.fieldLink RX1 40 "TandemExchange$Member" "wants" "I", Cond.fieldLink RX1 36 "TandemExchange$Member" "levels" "[I", Cond.methodLink RX0 30 yX1_value, Cond.instanceMethod yX1_value, Cond.selects RX1 yX1_value yX1_value, Cond.code yX1_value cX1_value 3 (some .int), Cond.methodLink RX1 71 yX1_score, Cond.instanceMethod yX1_score, Cond.selects RX1 yX1_score yX1_score, Cond.code yX1_score cX1_score 4 (some .int), Cond.fieldLink RX1 49 "TandemExchange$Member" "missed" "I", Cond.fieldLink RX1 46 "TandemExchange$Member" "credits" "I", Cond.methodLink RX1 66 yJ9_floorDiv_7cf53, Cond.static yJ9_floorDiv_7cf53, Cond.initialized RJ9, Cond.code yJ9_floorDiv_7cf53 cJ9_floorDiv_7cf53 3 (some .int), Cond.methodLink RX5 222 yX0_rankWithout, Cond.instanceMethod yX0_rankWithout, Cond.selects RX0 yX0_rankWithout yX0_rankWithout]
def wsX5_missedMost_r3 : List Cond := [Cond.code yX0_rankWithout cX0_rankWithout 3 (some .int)]
def wsX5_missedMost : List Cond := .code yX5_missedMost cX5_missedMost 5 (some .int) :: ((wsX5_missedMost_r1 ++ (wsX5_missedMost_r2 ++ wsX5_missedMost_r3)) ++ wsX50 ++ wsX10 ++ wsX00 ++ wsX30)
def wsX5_ahead_r1 : List Cond := [Cond.fieldLink RX5 23 "TandemExchange" "trial" "LTandemExchange$Circle;", Cond.fieldLink RX5 19 "TandemExchange" "circle" "LTandemExchange$Circle;", Cond.methodLink RX5 106 yX5_requireMember, Cond.instanceMethod yX5_requireMember, Cond.selects RX5 yX5_requireMember yX5_requireMember, Cond.initialized RX5, Cond.code yX5_requireMember cX5_requireMember 2 none, Cond.classLink RX5 255 "java/lang/IndexOutOfBoundsException", Cond.initialized "java/lang/IndexOutOfBoundsException", Cond.methodLink RX5 252 yX1_has, Cond.instanceMethod yX1_has, Cond.selects RX1 yX1_has yX1_has, Cond.initialized RX1, Cond.code yX1_has cX1_has 2 (some .boolean), Cond.fieldLink RX1 18 "TandemExchange$Circle" "size" "I", Cond.methodLink RX5 48 yX5_requireRange, Cond.static yX5_requireRange, Cond.code yX5_requireRange cX5_requireRange 3 none, Cond.classLink RX5 101 "java/lang/IllegalArgumentException", Cond.initialized "java/lang/IllegalArgumentException", Cond.methodLink RX5 226 yX1_copyFrom, Cond.instanceMethod yX1_copyFrom, Cond.selects RX1 yX1_copyFrom yX1_copyFrom, Cond.code yX1_copyFrom cX1_copyFrom 3 none]
def wsX5_ahead_r2 : List Cond := [Cond.fieldLink RX1 11 "TandemExchange$Circle" "members" "[LTandemExchange$Member;", Cond.fieldLink RX1 26 "TandemExchange$Circle" "weeks" "I", Cond.methodLink RX1 22 yX3_copyFrom, Cond.instanceMethod yX3_copyFrom, Cond.selects RX3 yX3_copyFrom yX3_copyFrom, Cond.initialized RX3, Cond.code yX3_copyFrom cX3_copyFrom 2 none, Cond.fieldLink RX3 9 "TandemExchange$Member" "levels" "[I", Cond.methodLink RX3 15 arraycopyName, Cond.native arraycopyName, Cond.static arraycopyName, Cond.initialized "java/lang/System", Cond.fieldLink RX3 21 "TandemExchange$Member" "wants" "I", Cond.fieldLink RX3 25 "TandemExchange$Member" "progress" "I", Cond.fieldLink RX3 28 "TandemExchange$Member" "credits" "I", Cond.fieldLink RX3 31 "TandemExchange$Member" "missed" "I", Cond.fieldLink RX3 34 "TandemExchange$Member" "partner" "I", Cond.fieldLink RX3 37 "TandemExchange$Member" "missedInRow" "I", Cond.methodLink RX5 192 yX1_passWeek, Cond.instanceMethod yX1_passWeek, Cond.selects RX1 yX1_passWeek yX1_passWeek, Cond.code yX1_passWeek cX1_passWeek 4 none, Cond.fieldLink RX1 55 "TandemExchange$Member" "missedInRow" "I", Cond.methodLink RX1 81 yX1_greaterPartner]
def wsX5_ahead_r3 : List Cond := [Cond.instanceMethod yX1_greaterPartner, Cond.selects RX1 yX1_greaterPartner yX1_greaterPartner, Cond.code yX1_greaterPartner cX1_greaterPartner 3 (some .int), Cond.fieldLink RX1 29 "TandemExchange$Member" "partner" "I", Cond.methodLink RX1 32 yX1_has, Cond.methodLink RX1 115 yX1_passWeekOfPair, Cond.instanceMethod yX1_passWeekOfPair, Cond.selects RX1 yX1_passWeekOfPair yX1_passWeekOfPair, Cond.code yX1_passWeekOfPair cX1_passWeekOfPair 8 none, Cond.methodLink RX1 118 yX3_failToMeet, Cond.instanceMethod yX3_failToMeet, Cond.selects RX3 yX3_failToMeet yX3_failToMeet, Cond.code yX3_failToMeet cX3_failToMeet 2 none, Cond.methodLink RX3 49 yX3_gainCredits, Cond.instanceMethod yX3_gainCredits, Cond.selects RX3 yX3_gainCredits yX3_gainCredits, Cond.code yX3_gainCredits cX3_gainCredits 2 none, Cond.methodLink RX3 40 Lib.Math.min.name, Cond.static Lib.Math.min.name, Cond.initialized "java/lang/Math", Cond.code Lib.Math.min.name Lib.Math.min.code 2 (some .int), Cond.methodLink RX3 46 Lib.Math.max.name, Cond.static Lib.Math.max.name, Cond.code Lib.Math.max.name Lib.Math.max.code 2 (some .int)]
def wsX5_ahead_r4 : List Cond := [Cond.methodLink RX1 122 yX1_pointsOfMeeting, Cond.instanceMethod yX1_pointsOfMeeting, Cond.selects RX1 yX1_pointsOfMeeting yX1_pointsOfMeeting, Cond.code yX1_pointsOfMeeting cX1_pointsOfMeeting 3 (some .int), Cond.methodLink RX1 128 Lib.Math.max.name, Cond.methodLink RX1 62 yX1_lead, Cond.instanceMethod yX1_lead, Cond.selects RX1 yX1_lead yX1_lead, Cond.code yX1_lead cX1_lead 4 (some .int), Cond.fieldLink RX1 40 "TandemExchange$Member" "wants" "I", Cond.fieldLink RX1 36 "TandemExchange$Member" "levels" "[I", Cond.methodLink RX1 125 yX3_meet, Cond.instanceMethod yX3_meet, Cond.selects RX3 yX3_meet yX3_meet, Cond.code yX3_meet cX3_meet 2 none, Cond.methodLink RX3 53 yX3_learn, Cond.instanceMethod yX3_learn, Cond.selects RX3 yX3_learn yX3_learn, Cond.code yX3_learn cX3_learn 2 none, Cond.methodLink RX1 74 yX1_fit, Cond.instanceMethod yX1_fit, Cond.selects RX1 yX1_fit yX1_fit, Cond.code yX1_fit cX1_fit 3 (some .boolean), Cond.methodLink RX1 94 yX1_separate]
def wsX5_ahead_r5 : List Cond := [Cond.instanceMethod yX1_separate, Cond.selects RX1 yX1_separate yX1_separate, Cond.code yX1_separate cX1_separate 3 none, Cond.methodLink RX5 110 yX1_numberOf, Cond.instanceMethod yX1_numberOf, Cond.selects RX1 yX1_numberOf yX1_numberOf, Cond.code yX1_numberOf cX1_numberOf 4 (some .int), Cond.fieldLink RX1 43 "TandemExchange$Member" "progress" "I", Cond.fieldLink RX1 46 "TandemExchange$Member" "credits" "I", Cond.fieldLink RX1 49 "TandemExchange$Member" "missed" "I", Cond.methodLink RX1 52 yX1_isFree, Cond.instanceMethod yX1_isFree, Cond.selects RX1 yX1_isFree yX1_isFree, Cond.code yX1_isFree cX1_isFree 2 (some .boolean), Cond.methodLink RX1 58 yX1_countFittingWith, Cond.instanceMethod yX1_countFittingWith, Cond.selects RX1 yX1_countFittingWith yX1_countFittingWith, Cond.code yX1_countFittingWith cX1_countFittingWith 4 (some .int)]
def wsX5_ahead : List Cond := .code yX5_ahead cX5_ahead 6 (some .int) :: ((wsX5_ahead_r1 ++ (wsX5_ahead_r2 ++ (wsX5_ahead_r3 ++ (wsX5_ahead_r4 ++ wsX5_ahead_r5)))) ++ wsX50 ++ wsX10 ++ wsX30 ++ (vx_atS RX5 259 "java/lang/IndexOutOfBoundsException" ["java/lang/RuntimeException", "java/lang/Exception"]).filter goodWord ++ (vx_atS RX5 105 "java/lang/IllegalArgumentException" ["java/lang/RuntimeException", "java/lang/Exception"]).filter goodWord)
def wsX5_levelAfter_r1 : List Cond := [Cond.fieldLink RX5 23 "TandemExchange" "trial" "LTandemExchange$Circle;", Cond.fieldLink RX5 19 "TandemExchange" "circle" "LTandemExchange$Circle;", Cond.fieldLink RX5 143 "TandemExchange$Circle" "members" "[LTandemExchange$Member;", Cond.methodLink RX5 106 yX5_requireMember, Cond.instanceMethod yX5_requireMember, Cond.selects RX5 yX5_requireMember yX5_requireMember, Cond.initialized RX5, Cond.code yX5_requireMember cX5_requireMember 2 none, Cond.classLink RX5 255 "java/lang/IndexOutOfBoundsException", Cond.initialized "java/lang/IndexOutOfBoundsException", Cond.methodLink RX5 252 yX1_has, Cond.instanceMethod yX1_has, Cond.selects RX1 yX1_has yX1_has, Cond.initialized RX1, Cond.code yX1_has cX1_has 2 (some .boolean), Cond.fieldLink RX1 18 "TandemExchange$Circle" "size" "I", Cond.methodLink RX5 48 yX5_requireRange, Cond.static yX5_requireRange, Cond.code yX5_requireRange cX5_requireRange 3 none, Cond.classLink RX5 101 "java/lang/IllegalArgumentException", Cond.initialized "java/lang/IllegalArgumentException", Cond.methodLink RX5 226 yX1_copyFrom, Cond.instanceMethod yX1_copyFrom, Cond.selects RX1 yX1_copyFrom yX1_copyFrom]
def wsX5_levelAfter_r2 : List Cond := [Cond.code yX1_copyFrom cX1_copyFrom 3 none, Cond.fieldLink RX1 11 "TandemExchange$Circle" "members" "[LTandemExchange$Member;", Cond.fieldLink RX1 26 "TandemExchange$Circle" "weeks" "I", Cond.methodLink RX1 22 yX3_copyFrom, Cond.instanceMethod yX3_copyFrom, Cond.selects RX3 yX3_copyFrom yX3_copyFrom, Cond.initialized RX3, Cond.code yX3_copyFrom cX3_copyFrom 2 none, Cond.fieldLink RX3 9 "TandemExchange$Member" "levels" "[I", Cond.methodLink RX3 15 arraycopyName, Cond.native arraycopyName, Cond.static arraycopyName, Cond.initialized "java/lang/System", Cond.fieldLink RX3 21 "TandemExchange$Member" "wants" "I", Cond.fieldLink RX3 25 "TandemExchange$Member" "progress" "I", Cond.fieldLink RX3 28 "TandemExchange$Member" "credits" "I", Cond.fieldLink RX3 31 "TandemExchange$Member" "missed" "I", Cond.fieldLink RX3 34 "TandemExchange$Member" "partner" "I", Cond.fieldLink RX3 37 "TandemExchange$Member" "missedInRow" "I", Cond.methodLink RX5 229 yX3_wantedLevel, Cond.instanceMethod yX3_wantedLevel, Cond.selects RX3 yX3_wantedLevel yX3_wantedLevel, Cond.code yX3_wantedLevel cX3_wantedLevel 1 (some .int), Cond.methodLink RX5 185 yX1_matchFree]
def wsX5_levelAfter_r3 : List Cond := [Cond.instanceMethod yX1_matchFree, Cond.selects RX1 yX1_matchFree yX1_matchFree, Cond.code yX1_matchFree cX1_matchFree 2 (some .int), Cond.methodLink RX1 101 yX1_uniteBestFreePair, Cond.instanceMethod yX1_uniteBestFreePair, Cond.selects RX1 yX1_uniteBestFreePair yX1_uniteBestFreePair, Cond.code yX1_uniteBestFreePair cX1_uniteBestFreePair 6 (some .boolean), Cond.methodLink RX1 105 yX1_canBecomePartners, Cond.instanceMethod yX1_canBecomePartners, Cond.selects RX1 yX1_canBecomePartners yX1_canBecomePartners, Cond.code yX1_canBecomePartners cX1_canBecomePartners 3 (some .boolean), Cond.methodLink RX1 52 yX1_isFree, Cond.instanceMethod yX1_isFree, Cond.selects RX1 yX1_isFree yX1_isFree, Cond.code yX1_isFree cX1_isFree 2 (some .boolean), Cond.fieldLink RX1 29 "TandemExchange$Member" "partner" "I", Cond.methodLink RX1 74 yX1_fit, Cond.instanceMethod yX1_fit, Cond.selects RX1 yX1_fit yX1_fit, Cond.code yX1_fit cX1_fit 3 (some .boolean), Cond.methodLink RX1 62 yX1_lead, Cond.instanceMethod yX1_lead, Cond.selects RX1 yX1_lead yX1_lead, Cond.code yX1_lead cX1_lead 4 (some .int)]
def wsX5_levelAfter_r4 : List Cond := [Cond.fieldLink RX1 40 "TandemExchange$Member" "wants" "I", Cond.fieldLink RX1 36 "TandemExchange$Member" "levels" "[I", Cond.methodLink RX1 84 yX1_value, Cond.instanceMethod yX1_value, Cond.selects RX1 yX1_value yX1_value, Cond.code yX1_value cX1_value 3 (some .int), Cond.methodLink RX1 71 yX1_score, Cond.instanceMethod yX1_score, Cond.selects RX1 yX1_score yX1_score, Cond.code yX1_score cX1_score 4 (some .int), Cond.fieldLink RX1 49 "TandemExchange$Member" "missed" "I", Cond.fieldLink RX1 46 "TandemExchange$Member" "credits" "I", Cond.methodLink RX1 66 yJ9_floorDiv_7cf53, Cond.static yJ9_floorDiv_7cf53, Cond.initialized RJ9, Cond.code yJ9_floorDiv_7cf53 cJ9_floorDiv_7cf53 3 (some .int), Cond.methodLink RX1 32 yX1_has, Cond.methodLink RX1 108 yX1_unite, Cond.instanceMethod yX1_unite, Cond.selects RX1 yX1_unite yX1_unite, Cond.code yX1_unite cX1_unite 3 none, Cond.fieldLink RX1 55 "TandemExchange$Member" "missedInRow" "I", Cond.methodLink RX5 192 yX1_passWeek, Cond.instanceMethod yX1_passWeek]
def wsX5_levelAfter_r5 : List Cond := [Cond.selects RX1 yX1_passWeek yX1_passWeek, Cond.code yX1_passWeek cX1_passWeek 4 none, Cond.methodLink RX1 81 yX1_greaterPartner, Cond.instanceMethod yX1_greaterPartner, Cond.selects RX1 yX1_greaterPartner yX1_greaterPartner, Cond.code yX1_greaterPartner cX1_greaterPartner 3 (some .int), Cond.methodLink RX1 115 yX1_passWeekOfPair, Cond.instanceMethod yX1_passWeekOfPair, Cond.selects RX1 yX1_passWeekOfPair yX1_passWeekOfPair, Cond.code yX1_passWeekOfPair cX1_passWeekOfPair 8 none, Cond.methodLink RX1 118 yX3_failToMeet, Cond.instanceMethod yX3_failToMeet, Cond.selects RX3 yX3_failToMeet yX3_failToMeet, Cond.code yX3_failToMeet cX3_failToMeet 2 none, Cond.methodLink RX3 49 yX3_gainCredits, Cond.instanceMethod yX3_gainCredits, Cond.selects RX3 yX3_gainCredits yX3_gainCredits, Cond.code yX3_gainCredits cX3_gainCredits 2 none, Cond.methodLink RX3 40 Lib.Math.min.name, Cond.static Lib.Math.min.name, Cond.initialized "java/lang/Math", Cond.code Lib.Math.min.name Lib.Math.min.code 2 (some .int), Cond.methodLink RX3 46 Lib.Math.max.name, Cond.static Lib.Math.max.name]
def wsX5_levelAfter_r6 : List Cond := [Cond.code Lib.Math.max.name Lib.Math.max.code 2 (some .int), Cond.methodLink RX1 122 yX1_pointsOfMeeting, Cond.instanceMethod yX1_pointsOfMeeting, Cond.selects RX1 yX1_pointsOfMeeting yX1_pointsOfMeeting, Cond.code yX1_pointsOfMeeting cX1_pointsOfMeeting 3 (some .int), Cond.methodLink RX1 128 Lib.Math.max.name, Cond.methodLink RX1 125 yX3_meet, Cond.instanceMethod yX3_meet, Cond.selects RX3 yX3_meet yX3_meet, Cond.code yX3_meet cX3_meet 2 none, Cond.methodLink RX3 53 yX3_learn, Cond.instanceMethod yX3_learn, Cond.selects RX3 yX3_learn yX3_learn, Cond.code yX3_learn cX3_learn 2 none, Cond.methodLink RX1 94 yX1_separate, Cond.instanceMethod yX1_separate, Cond.selects RX1 yX1_separate yX1_separate, Cond.code yX1_separate cX1_separate 3 none]
def wsX5_levelAfter : List Cond := .code yX5_levelAfter cX5_levelAfter 4 (some .int) :: ((wsX5_levelAfter_r1 ++ (wsX5_levelAfter_r2 ++ (wsX5_levelAfter_r3 ++ (wsX5_levelAfter_r4 ++ (wsX5_levelAfter_r5 ++ wsX5_levelAfter_r6))))) ++ wsX50 ++ wsX10 ++ wsX30 ++ (vx_atS RX5 259 "java/lang/IndexOutOfBoundsException" ["java/lang/RuntimeException", "java/lang/Exception"]).filter goodWord ++ (vx_atS RX5 105 "java/lang/IllegalArgumentException" ["java/lang/RuntimeException", "java/lang/Exception"]).filter goodWord)
def wsX5_partsAfter_r1 : List Cond := [Cond.fieldLink RX5 23 "TandemExchange" "trial" "LTandemExchange$Circle;", Cond.fieldLink RX5 19 "TandemExchange" "circle" "LTandemExchange$Circle;", Cond.methodLink RX5 106 yX5_requireMember, Cond.instanceMethod yX5_requireMember, Cond.selects RX5 yX5_requireMember yX5_requireMember, Cond.initialized RX5, Cond.code yX5_requireMember cX5_requireMember 2 none, Cond.classLink RX5 255 "java/lang/IndexOutOfBoundsException", Cond.initialized "java/lang/IndexOutOfBoundsException", Cond.methodLink RX5 252 yX1_has, Cond.instanceMethod yX1_has, Cond.selects RX1 yX1_has yX1_has, Cond.initialized RX1, Cond.code yX1_has cX1_has 2 (some .boolean), Cond.fieldLink RX1 18 "TandemExchange$Circle" "size" "I", Cond.methodLink RX5 48 yX5_requireRange, Cond.static yX5_requireRange, Cond.code yX5_requireRange cX5_requireRange 3 none, Cond.classLink RX5 101 "java/lang/IllegalArgumentException", Cond.initialized "java/lang/IllegalArgumentException", Cond.methodLink RX5 176 yX5_requirePartner, Cond.instanceMethod yX5_requirePartner, Cond.selects RX5 yX5_requirePartner yX5_requirePartner, Cond.code yX5_requirePartner cX5_requirePartner 2 none]
def wsX5_partsAfter_r2 : List Cond := [Cond.classLink RX5 56 "java/lang/IllegalStateException", Cond.initialized "java/lang/IllegalStateException", Cond.methodLink RX5 205 yX1_isFree, Cond.instanceMethod yX1_isFree, Cond.selects RX1 yX1_isFree yX1_isFree, Cond.code yX1_isFree cX1_isFree 2 (some .boolean), Cond.fieldLink RX1 11 "TandemExchange$Circle" "members" "[LTandemExchange$Member;", Cond.fieldLink RX1 29 "TandemExchange$Member" "partner" "I", Cond.methodLink RX5 226 yX1_copyFrom, Cond.instanceMethod yX1_copyFrom, Cond.selects RX1 yX1_copyFrom yX1_copyFrom, Cond.code yX1_copyFrom cX1_copyFrom 3 none, Cond.fieldLink RX1 26 "TandemExchange$Circle" "weeks" "I", Cond.methodLink RX1 22 yX3_copyFrom, Cond.instanceMethod yX3_copyFrom, Cond.selects RX3 yX3_copyFrom yX3_copyFrom, Cond.initialized RX3, Cond.code yX3_copyFrom cX3_copyFrom 2 none, Cond.fieldLink RX3 9 "TandemExchange$Member" "levels" "[I", Cond.methodLink RX3 15 arraycopyName, Cond.native arraycopyName, Cond.static arraycopyName, Cond.initialized "java/lang/System", Cond.fieldLink RX3 21 "TandemExchange$Member" "wants" "I"]
def wsX5_partsAfter_r3 : List Cond := [Cond.fieldLink RX3 25 "TandemExchange$Member" "progress" "I", Cond.fieldLink RX3 28 "TandemExchange$Member" "credits" "I", Cond.fieldLink RX3 31 "TandemExchange$Member" "missed" "I", Cond.fieldLink RX3 34 "TandemExchange$Member" "partner" "I", Cond.fieldLink RX3 37 "TandemExchange$Member" "missedInRow" "I", Cond.methodLink RX5 192 yX1_passWeek, Cond.instanceMethod yX1_passWeek, Cond.selects RX1 yX1_passWeek yX1_passWeek, Cond.code yX1_passWeek cX1_passWeek 4 none, Cond.fieldLink RX1 55 "TandemExchange$Member" "missedInRow" "I", Cond.methodLink RX1 81 yX1_greaterPartner, Cond.instanceMethod yX1_greaterPartner, Cond.selects RX1 yX1_greaterPartner yX1_greaterPartner, Cond.code yX1_greaterPartner cX1_greaterPartner 3 (some .int), Cond.methodLink RX1 32 yX1_has, Cond.methodLink RX1 115 yX1_passWeekOfPair, Cond.instanceMethod yX1_passWeekOfPair, Cond.selects RX1 yX1_passWeekOfPair yX1_passWeekOfPair, Cond.code yX1_passWeekOfPair cX1_passWeekOfPair 8 none, Cond.methodLink RX1 118 yX3_failToMeet, Cond.instanceMethod yX3_failToMeet, Cond.selects RX3 yX3_failToMeet yX3_failToMeet, Cond.code yX3_failToMeet cX3_failToMeet 2 none, Cond.methodLink RX3 49 yX3_gainCredits]
def wsX5_partsAfter_r4 : List Cond := [Cond.instanceMethod yX3_gainCredits, Cond.selects RX3 yX3_gainCredits yX3_gainCredits, Cond.code yX3_gainCredits cX3_gainCredits 2 none, Cond.methodLink RX3 40 Lib.Math.min.name, Cond.static Lib.Math.min.name, Cond.initialized "java/lang/Math", Cond.code Lib.Math.min.name Lib.Math.min.code 2 (some .int), Cond.methodLink RX3 46 Lib.Math.max.name, Cond.static Lib.Math.max.name, Cond.code Lib.Math.max.name Lib.Math.max.code 2 (some .int), Cond.methodLink RX1 122 yX1_pointsOfMeeting, Cond.instanceMethod yX1_pointsOfMeeting, Cond.selects RX1 yX1_pointsOfMeeting yX1_pointsOfMeeting, Cond.code yX1_pointsOfMeeting cX1_pointsOfMeeting 3 (some .int), Cond.methodLink RX1 128 Lib.Math.max.name, Cond.methodLink RX1 62 yX1_lead, Cond.instanceMethod yX1_lead, Cond.selects RX1 yX1_lead yX1_lead, Cond.code yX1_lead cX1_lead 4 (some .int), Cond.fieldLink RX1 40 "TandemExchange$Member" "wants" "I", Cond.fieldLink RX1 36 "TandemExchange$Member" "levels" "[I", Cond.methodLink RX1 125 yX3_meet, Cond.instanceMethod yX3_meet, Cond.selects RX3 yX3_meet yX3_meet]
def wsX5_partsAfter_r5 : List Cond := [Cond.code yX3_meet cX3_meet 2 none, Cond.methodLink RX3 53 yX3_learn, Cond.instanceMethod yX3_learn, Cond.selects RX3 yX3_learn yX3_learn, Cond.code yX3_learn cX3_learn 2 none, Cond.methodLink RX1 74 yX1_fit, Cond.instanceMethod yX1_fit, Cond.selects RX1 yX1_fit yX1_fit, Cond.code yX1_fit cX1_fit 3 (some .boolean), Cond.methodLink RX1 94 yX1_separate, Cond.instanceMethod yX1_separate, Cond.selects RX1 yX1_separate yX1_separate, Cond.code yX1_separate cX1_separate 3 none]
def wsX5_partsAfter : List Cond := .code yX5_partsAfter cX5_partsAfter 4 (some .int) :: ((wsX5_partsAfter_r1 ++ (wsX5_partsAfter_r2 ++ (wsX5_partsAfter_r3 ++ (wsX5_partsAfter_r4 ++ wsX5_partsAfter_r5)))) ++ wsX50 ++ wsX10 ++ wsX30 ++ (vx_atS RX5 259 "java/lang/IndexOutOfBoundsException" ["java/lang/RuntimeException", "java/lang/Exception"]).filter goodWord ++ (vx_atS RX5 105 "java/lang/IllegalArgumentException" ["java/lang/RuntimeException", "java/lang/Exception"]).filter goodWord ++ (vx_atS RX5 60 "java/lang/IllegalStateException" ["java/lang/RuntimeException", "java/lang/Exception"]).filter goodWord)
def wsX5_withoutLowestGroups : List Cond := .code yX5_withoutLowestGroups cX5_withoutLowestGroups 6 (some .long) :: ([.constantLong RX5 238 (10000)])
def wsX5_commandSucceeds_r1 : List Cond := [Cond.fieldLink RX5 23 "TandemExchange" "trial" "LTandemExchange$Circle;", Cond.fieldLink RX5 143 "TandemExchange$Circle" "members" "[LTandemExchange$Member;", Cond.fieldLink RX5 179 "TandemExchange$Member" "partner" "I", Cond.fieldLink RX5 161 "TandemExchange$Member" "levels" "[I", Cond.methodLink RX5 252 yX1_has, Cond.instanceMethod yX1_has, Cond.selects RX1 yX1_has yX1_has, Cond.initialized RX1, Cond.code yX1_has cX1_has 2 (some .boolean), Cond.fieldLink RX1 18 "TandemExchange$Circle" "size" "I", Cond.methodLink RX5 168 yX1_canBecomePartners, Cond.instanceMethod yX1_canBecomePartners, Cond.selects RX1 yX1_canBecomePartners yX1_canBecomePartners, Cond.code yX1_canBecomePartners cX1_canBecomePartners 3 (some .boolean), Cond.methodLink RX1 52 yX1_isFree, Cond.instanceMethod yX1_isFree, Cond.selects RX1 yX1_isFree yX1_isFree, Cond.code yX1_isFree cX1_isFree 2 (some .boolean), Cond.fieldLink RX1 11 "TandemExchange$Circle" "members" "[LTandemExchange$Member;", Cond.fieldLink RX1 29 "TandemExchange$Member" "partner" "I", Cond.methodLink RX1 74 yX1_fit, Cond.instanceMethod yX1_fit, Cond.selects RX1 yX1_fit yX1_fit, Cond.code yX1_fit cX1_fit 3 (some .boolean)]
def wsX5_commandSucceeds_r2 : List Cond := [Cond.methodLink RX1 62 yX1_lead, Cond.instanceMethod yX1_lead, Cond.selects RX1 yX1_lead yX1_lead, Cond.code yX1_lead cX1_lead 4 (some .int), Cond.fieldLink RX1 40 "TandemExchange$Member" "wants" "I", Cond.fieldLink RX1 36 "TandemExchange$Member" "levels" "[I", Cond.methodLink RX5 173 yX1_unite, Cond.instanceMethod yX1_unite, Cond.selects RX1 yX1_unite yX1_unite, Cond.code yX1_unite cX1_unite 3 none, Cond.fieldLink RX1 55 "TandemExchange$Member" "missedInRow" "I", Cond.methodLink RX5 205 yX1_isFree, Cond.methodLink RX5 182 yX1_separate, Cond.instanceMethod yX1_separate, Cond.selects RX1 yX1_separate yX1_separate, Cond.code yX1_separate cX1_separate 3 none, Cond.methodLink RX1 32 yX1_has, Cond.methodLink RX5 185 yX1_matchFree, Cond.instanceMethod yX1_matchFree, Cond.selects RX1 yX1_matchFree yX1_matchFree, Cond.code yX1_matchFree cX1_matchFree 2 (some .int), Cond.methodLink RX1 101 yX1_uniteBestFreePair, Cond.instanceMethod yX1_uniteBestFreePair, Cond.selects RX1 yX1_uniteBestFreePair yX1_uniteBestFreePair]
def wsX5_commandSucceeds_r3 : List Cond := [Cond.code yX1_uniteBestFreePair cX1_uniteBestFreePair 6 (some .boolean), Cond.methodLink RX1 105 yX1_canBecomePartners, Cond.methodLink RX1 84 yX1_value, Cond.instanceMethod yX1_value, Cond.selects RX1 yX1_value yX1_value, Cond.code yX1_value cX1_value 3 (some .int), Cond.methodLink RX1 71 yX1_score, Cond.instanceMethod yX1_score, Cond.selects RX1 yX1_score yX1_score, Cond.code yX1_score cX1_score 4 (some .int), Cond.fieldLink RX1 49 "TandemExchange$Member" "missed" "I", Cond.fieldLink RX1 46 "TandemExchange$Member" "credits" "I", Cond.methodLink RX1 66 yJ9_floorDiv_7cf53, Cond.static yJ9_floorDiv_7cf53, Cond.initialized RJ9, Cond.code yJ9_floorDiv_7cf53 cJ9_floorDiv_7cf53 3 (some .int), Cond.methodLink RX1 108 yX1_unite, Cond.methodLink RX5 188 yX1_settleBy, Cond.instanceMethod yX1_settleBy, Cond.selects RX1 yX1_settleBy yX1_settleBy, Cond.code yX1_settleBy cX1_settleBy 3 (some .int), Cond.methodLink RX1 112 yX1_uniteFirstBlockingPair, Cond.instanceMethod yX1_uniteFirstBlockingPair, Cond.selects RX1 yX1_uniteFirstBlockingPair yX1_uniteFirstBlockingPair]
def wsX5_commandSucceeds_r4 : List Cond := [Cond.code yX1_uniteFirstBlockingPair cX1_uniteFirstBlockingPair 3 (some .boolean), Cond.methodLink RX1 87 yX1_block, Cond.instanceMethod yX1_block, Cond.selects RX1 yX1_block yX1_block, Cond.code yX1_block cX1_block 3 (some .boolean), Cond.methodLink RX1 78 yX1_prefers, Cond.instanceMethod yX1_prefers, Cond.selects RX1 yX1_prefers yX1_prefers, Cond.code yX1_prefers cX1_prefers 4 (some .boolean), Cond.methodLink RX1 94 yX1_separate, Cond.methodLink RX5 192 yX1_passWeek, Cond.instanceMethod yX1_passWeek, Cond.selects RX1 yX1_passWeek yX1_passWeek, Cond.code yX1_passWeek cX1_passWeek 4 none, Cond.fieldLink RX1 26 "TandemExchange$Circle" "weeks" "I", Cond.methodLink RX1 81 yX1_greaterPartner, Cond.instanceMethod yX1_greaterPartner, Cond.selects RX1 yX1_greaterPartner yX1_greaterPartner, Cond.code yX1_greaterPartner cX1_greaterPartner 3 (some .int), Cond.methodLink RX1 115 yX1_passWeekOfPair, Cond.instanceMethod yX1_passWeekOfPair, Cond.selects RX1 yX1_passWeekOfPair yX1_passWeekOfPair, Cond.code yX1_passWeekOfPair cX1_passWeekOfPair 8 none, Cond.methodLink RX1 118 yX3_failToMeet]
def wsX5_commandSucceeds_r5 : List Cond := [Cond.instanceMethod yX3_failToMeet, Cond.selects RX3 yX3_failToMeet yX3_failToMeet, Cond.initialized RX3, Cond.code yX3_failToMeet cX3_failToMeet 2 none, Cond.fieldLink RX3 37 "TandemExchange$Member" "missedInRow" "I", Cond.fieldLink RX3 31 "TandemExchange$Member" "missed" "I", Cond.methodLink RX3 49 yX3_gainCredits, Cond.instanceMethod yX3_gainCredits, Cond.selects RX3 yX3_gainCredits yX3_gainCredits, Cond.code yX3_gainCredits cX3_gainCredits 2 none, Cond.fieldLink RX3 28 "TandemExchange$Member" "credits" "I", Cond.methodLink RX3 40 Lib.Math.min.name, Cond.static Lib.Math.min.name, Cond.initialized "java/lang/Math", Cond.code Lib.Math.min.name Lib.Math.min.code 2 (some .int), Cond.methodLink RX3 46 Lib.Math.max.name, Cond.static Lib.Math.max.name, Cond.code Lib.Math.max.name Lib.Math.max.code 2 (some .int), Cond.methodLink RX1 122 yX1_pointsOfMeeting, Cond.instanceMethod yX1_pointsOfMeeting, Cond.selects RX1 yX1_pointsOfMeeting yX1_pointsOfMeeting, Cond.code yX1_pointsOfMeeting cX1_pointsOfMeeting 3 (some .int), Cond.methodLink RX1 128 Lib.Math.max.name, Cond.methodLink RX1 125 yX3_meet]
def wsX5_commandSucceeds_r6 : List Cond := [Cond.instanceMethod yX3_meet, Cond.selects RX3 yX3_meet yX3_meet, Cond.code yX3_meet cX3_meet 2 none, Cond.methodLink RX3 53 yX3_learn, Cond.instanceMethod yX3_learn, Cond.selects RX3 yX3_learn yX3_learn, Cond.code yX3_learn cX3_learn 2 none, Cond.fieldLink RX3 25 "TandemExchange$Member" "progress" "I", Cond.fieldLink RX3 9 "TandemExchange$Member" "levels" "[I", Cond.fieldLink RX3 21 "TandemExchange$Member" "wants" "I", Cond.methodLink RX5 165 yX1_grade, Cond.instanceMethod yX1_grade, Cond.selects RX1 yX1_grade yX1_grade, Cond.code yX1_grade cX1_grade 5 none, Cond.fieldLink RX1 43 "TandemExchange$Member" "progress" "I", Cond.methodLink RX1 98 yX1_separateIfUnfit, Cond.instanceMethod yX1_separateIfUnfit, Cond.selects RX1 yX1_separateIfUnfit yX1_separateIfUnfit, Cond.code yX1_separateIfUnfit cX1_separateIfUnfit 3 none, Cond.methodLink RX5 83 yX1_countPairs, Cond.instanceMethod yX1_countPairs, Cond.selects RX1 yX1_countPairs yX1_countPairs, Cond.code yX1_countPairs cX1_countPairs 3 (some .int)]
def wsX5_commandSucceeds : List Cond := .code yX5_commandSucceeds cX5_commandSucceeds 7 (some .boolean) :: ((wsX5_commandSucceeds_r1 ++ (wsX5_commandSucceeds_r2 ++ (wsX5_commandSucceeds_r3 ++ (wsX5_commandSucceeds_r4 ++ (wsX5_commandSucceeds_r5 ++ wsX5_commandSucceeds_r6))))) ++ wsX50 ++ wsX10 ++ wsX30)
def wsX5_runScript_r1 : List Cond := [Cond.classLink RX5 101 "java/lang/IllegalArgumentException", Cond.initialized "java/lang/IllegalArgumentException", Cond.fieldLink RX5 23 "TandemExchange" "trial" "LTandemExchange$Circle;", Cond.fieldLink RX5 19 "TandemExchange" "circle" "LTandemExchange$Circle;", Cond.constantLong RX5 238 (10000), Cond.methodLink RX5 48 yX5_requireRange, Cond.static yX5_requireRange, Cond.initialized RX5, Cond.code yX5_requireRange cX5_requireRange 3 none, Cond.methodLink RX5 232 yX5_withoutLowestGroups, Cond.static yX5_withoutLowestGroups, Cond.code yX5_withoutLowestGroups cX5_withoutLowestGroups 6 (some .long), Cond.methodLink RX5 226 yX1_copyFrom, Cond.instanceMethod yX1_copyFrom, Cond.selects RX1 yX1_copyFrom yX1_copyFrom, Cond.initialized RX1, Cond.code yX1_copyFrom cX1_copyFrom 3 none, Cond.fieldLink RX1 18 "TandemExchange$Circle" "size" "I", Cond.fieldLink RX1 11 "TandemExchange$Circle" "members" "[LTandemExchange$Member;", Cond.fieldLink RX1 26 "TandemExchange$Circle" "weeks" "I", Cond.methodLink RX1 22 yX3_copyFrom, Cond.instanceMethod yX3_copyFrom, Cond.selects RX3 yX3_copyFrom yX3_copyFrom, Cond.initialized RX3]
def wsX5_runScript_r2 : List Cond := [Cond.code yX3_copyFrom cX3_copyFrom 2 none, Cond.fieldLink RX3 9 "TandemExchange$Member" "levels" "[I", Cond.methodLink RX3 15 arraycopyName, Cond.native arraycopyName, Cond.static arraycopyName, Cond.initialized "java/lang/System", Cond.fieldLink RX3 21 "TandemExchange$Member" "wants" "I", Cond.fieldLink RX3 25 "TandemExchange$Member" "progress" "I", Cond.fieldLink RX3 28 "TandemExchange$Member" "credits" "I", Cond.fieldLink RX3 31 "TandemExchange$Member" "missed" "I", Cond.fieldLink RX3 34 "TandemExchange$Member" "partner" "I", Cond.fieldLink RX3 37 "TandemExchange$Member" "missedInRow" "I", Cond.methodLink RX5 240 yX5_commandSucceeds, Cond.instanceMethod yX5_commandSucceeds, Cond.selects RX5 yX5_commandSucceeds yX5_commandSucceeds, Cond.code yX5_commandSucceeds cX5_commandSucceeds 7 (some .boolean), Cond.fieldLink RX5 143 "TandemExchange$Circle" "members" "[LTandemExchange$Member;", Cond.fieldLink RX5 179 "TandemExchange$Member" "partner" "I", Cond.fieldLink RX5 161 "TandemExchange$Member" "levels" "[I", Cond.methodLink RX5 252 yX1_has, Cond.instanceMethod yX1_has, Cond.selects RX1 yX1_has yX1_has, Cond.code yX1_has cX1_has 2 (some .boolean), Cond.methodLink RX5 168 yX1_canBecomePartners]
def wsX5_runScript_r3 : List Cond := [Cond.instanceMethod yX1_canBecomePartners, Cond.selects RX1 yX1_canBecomePartners yX1_canBecomePartners, Cond.code yX1_canBecomePartners cX1_canBecomePartners 3 (some .boolean), Cond.methodLink RX1 52 yX1_isFree, Cond.instanceMethod yX1_isFree, Cond.selects RX1 yX1_isFree yX1_isFree, Cond.code yX1_isFree cX1_isFree 2 (some .boolean), Cond.fieldLink RX1 29 "TandemExchange$Member" "partner" "I", Cond.methodLink RX1 74 yX1_fit, Cond.instanceMethod yX1_fit, Cond.selects RX1 yX1_fit yX1_fit, Cond.code yX1_fit cX1_fit 3 (some .boolean), Cond.methodLink RX1 62 yX1_lead, Cond.instanceMethod yX1_lead, Cond.selects RX1 yX1_lead yX1_lead, Cond.code yX1_lead cX1_lead 4 (some .int), Cond.fieldLink RX1 40 "TandemExchange$Member" "wants" "I", Cond.fieldLink RX1 36 "TandemExchange$Member" "levels" "[I", Cond.methodLink RX5 173 yX1_unite, Cond.instanceMethod yX1_unite, Cond.selects RX1 yX1_unite yX1_unite, Cond.code yX1_unite cX1_unite 3 none, Cond.fieldLink RX1 55 "TandemExchange$Member" "missedInRow" "I", Cond.methodLink RX5 205 yX1_isFree]
def wsX5_runScript_r4 : List Cond := [Cond.methodLink RX5 182 yX1_separate, Cond.instanceMethod yX1_separate, Cond.selects RX1 yX1_separate yX1_separate, Cond.code yX1_separate cX1_separate 3 none, Cond.methodLink RX1 32 yX1_has, Cond.methodLink RX5 185 yX1_matchFree, Cond.instanceMethod yX1_matchFree, Cond.selects RX1 yX1_matchFree yX1_matchFree, Cond.code yX1_matchFree cX1_matchFree 2 (some .int), Cond.methodLink RX1 101 yX1_uniteBestFreePair, Cond.instanceMethod yX1_uniteBestFreePair, Cond.selects RX1 yX1_uniteBestFreePair yX1_uniteBestFreePair, Cond.code yX1_uniteBestFreePair cX1_uniteBestFreePair 6 (some .boolean), Cond.methodLink RX1 105 yX1_canBecomePartners, Cond.methodLink RX1 84 yX1_value, Cond.instanceMethod yX1_value, Cond.selects RX1 yX1_value yX1_value, Cond.code yX1_value cX1_value 3 (some .int), Cond.methodLink RX1 71 yX1_score, Cond.instanceMethod yX1_score, Cond.selects RX1 yX1_score yX1_score, Cond.code yX1_score cX1_score 4 (some .int), Cond.fieldLink RX1 49 "TandemExchange$Member" "missed" "I", Cond.fieldLink RX1 46 "TandemExchange$Member" "credits" "I"]
def wsX5_runScript_r5 : List Cond := [Cond.methodLink RX1 66 yJ9_floorDiv_7cf53, Cond.static yJ9_floorDiv_7cf53, Cond.initialized RJ9, Cond.code yJ9_floorDiv_7cf53 cJ9_floorDiv_7cf53 3 (some .int), Cond.methodLink RX1 108 yX1_unite, Cond.methodLink RX5 188 yX1_settleBy, Cond.instanceMethod yX1_settleBy, Cond.selects RX1 yX1_settleBy yX1_settleBy, Cond.code yX1_settleBy cX1_settleBy 3 (some .int), Cond.methodLink RX1 112 yX1_uniteFirstBlockingPair, Cond.instanceMethod yX1_uniteFirstBlockingPair, Cond.selects RX1 yX1_uniteFirstBlockingPair yX1_uniteFirstBlockingPair, Cond.code yX1_uniteFirstBlockingPair cX1_uniteFirstBlockingPair 3 (some .boolean), Cond.methodLink RX1 87 yX1_block, Cond.instanceMethod yX1_block, Cond.selects RX1 yX1_block yX1_block, Cond.code yX1_block cX1_block 3 (some .boolean), Cond.methodLink RX1 78 yX1_prefers, Cond.instanceMethod yX1_prefers, Cond.selects RX1 yX1_prefers yX1_prefers, Cond.code yX1_prefers cX1_prefers 4 (some .boolean), Cond.methodLink RX1 94 yX1_separate, Cond.methodLink RX5 192 yX1_passWeek, Cond.instanceMethod yX1_passWeek]
def wsX5_runScript_r6 : List Cond := [Cond.selects RX1 yX1_passWeek yX1_passWeek, Cond.code yX1_passWeek cX1_passWeek 4 none, Cond.methodLink RX1 81 yX1_greaterPartner, Cond.instanceMethod yX1_greaterPartner, Cond.selects RX1 yX1_greaterPartner yX1_greaterPartner, Cond.code yX1_greaterPartner cX1_greaterPartner 3 (some .int), Cond.methodLink RX1 115 yX1_passWeekOfPair, Cond.instanceMethod yX1_passWeekOfPair, Cond.selects RX1 yX1_passWeekOfPair yX1_passWeekOfPair, Cond.code yX1_passWeekOfPair cX1_passWeekOfPair 8 none, Cond.methodLink RX1 118 yX3_failToMeet, Cond.instanceMethod yX3_failToMeet, Cond.selects RX3 yX3_failToMeet yX3_failToMeet, Cond.code yX3_failToMeet cX3_failToMeet 2 none, Cond.methodLink RX3 49 yX3_gainCredits, Cond.instanceMethod yX3_gainCredits, Cond.selects RX3 yX3_gainCredits yX3_gainCredits, Cond.code yX3_gainCredits cX3_gainCredits 2 none, Cond.methodLink RX3 40 Lib.Math.min.name, Cond.static Lib.Math.min.name, Cond.initialized "java/lang/Math", Cond.code Lib.Math.min.name Lib.Math.min.code 2 (some .int), Cond.methodLink RX3 46 Lib.Math.max.name, Cond.static Lib.Math.max.name]
def wsX5_runScript_r7 : List Cond := [Cond.code Lib.Math.max.name Lib.Math.max.code 2 (some .int), Cond.methodLink RX1 122 yX1_pointsOfMeeting, Cond.instanceMethod yX1_pointsOfMeeting, Cond.selects RX1 yX1_pointsOfMeeting yX1_pointsOfMeeting, Cond.code yX1_pointsOfMeeting cX1_pointsOfMeeting 3 (some .int), Cond.methodLink RX1 128 Lib.Math.max.name, Cond.methodLink RX1 125 yX3_meet, Cond.instanceMethod yX3_meet, Cond.selects RX3 yX3_meet yX3_meet, Cond.code yX3_meet cX3_meet 2 none, Cond.methodLink RX3 53 yX3_learn, Cond.instanceMethod yX3_learn, Cond.selects RX3 yX3_learn yX3_learn, Cond.code yX3_learn cX3_learn 2 none, Cond.methodLink RX5 165 yX1_grade, Cond.instanceMethod yX1_grade, Cond.selects RX1 yX1_grade yX1_grade, Cond.code yX1_grade cX1_grade 5 none, Cond.fieldLink RX1 43 "TandemExchange$Member" "progress" "I", Cond.methodLink RX1 98 yX1_separateIfUnfit, Cond.instanceMethod yX1_separateIfUnfit, Cond.selects RX1 yX1_separateIfUnfit yX1_separateIfUnfit, Cond.code yX1_separateIfUnfit cX1_separateIfUnfit 3 none, Cond.methodLink RX5 83 yX1_countPairs]
def wsX5_runScript_r8 : List Cond := [Cond.instanceMethod yX1_countPairs, Cond.selects RX1 yX1_countPairs yX1_countPairs, Cond.code yX1_countPairs cX1_countPairs 3 (some .int)]
def wsX5_runScript : List Cond := .code yX5_runScript cX5_runScript 6 (some .int) :: ((wsX5_runScript_r1 ++ (wsX5_runScript_r2 ++ (wsX5_runScript_r3 ++ (wsX5_runScript_r4 ++ (wsX5_runScript_r5 ++ (wsX5_runScript_r6 ++ (wsX5_runScript_r7 ++ wsX5_runScript_r8))))))) ++ wsX50 ++ wsX10 ++ wsX30 ++ (vx_atS RX5 105 "java/lang/IllegalArgumentException" ["java/lang/RuntimeException", "java/lang/Exception"]).filter goodWord)
def wsX5_simulate_r1 : List Cond := [Cond.fieldLink RX5 23 "TandemExchange" "trial" "LTandemExchange$Circle;", Cond.fieldLink RX5 19 "TandemExchange" "circle" "LTandemExchange$Circle;", Cond.constantLong RX5 243 (6364136223846793005), Cond.constantLong RX5 245 (1442695040888963407), Cond.methodLink RX5 48 yX5_requireRange, Cond.static yX5_requireRange, Cond.initialized RX5, Cond.code yX5_requireRange cX5_requireRange 3 none, Cond.classLink RX5 101 "java/lang/IllegalArgumentException", Cond.initialized "java/lang/IllegalArgumentException", Cond.methodLink RX5 226 yX1_copyFrom, Cond.instanceMethod yX1_copyFrom, Cond.selects RX1 yX1_copyFrom yX1_copyFrom, Cond.initialized RX1, Cond.code yX1_copyFrom cX1_copyFrom 3 none, Cond.fieldLink RX1 18 "TandemExchange$Circle" "size" "I", Cond.fieldLink RX1 11 "TandemExchange$Circle" "members" "[LTandemExchange$Member;", Cond.fieldLink RX1 26 "TandemExchange$Circle" "weeks" "I", Cond.methodLink RX1 22 yX3_copyFrom, Cond.instanceMethod yX3_copyFrom, Cond.selects RX3 yX3_copyFrom yX3_copyFrom, Cond.initialized RX3, Cond.code yX3_copyFrom cX3_copyFrom 2 none, Cond.fieldLink RX3 9 "TandemExchange$Member" "levels" "[I"]
def wsX5_simulate_r2 : List Cond := [Cond.methodLink RX3 15 arraycopyName, Cond.native arraycopyName, Cond.static arraycopyName, Cond.initialized "java/lang/System", Cond.fieldLink RX3 21 "TandemExchange$Member" "wants" "I", Cond.fieldLink RX3 25 "TandemExchange$Member" "progress" "I", Cond.fieldLink RX3 28 "TandemExchange$Member" "credits" "I", Cond.fieldLink RX3 31 "TandemExchange$Member" "missed" "I", Cond.fieldLink RX3 34 "TandemExchange$Member" "partner" "I", Cond.fieldLink RX3 37 "TandemExchange$Member" "missedInRow" "I", Cond.methodLink RX5 185 yX1_matchFree, Cond.instanceMethod yX1_matchFree, Cond.selects RX1 yX1_matchFree yX1_matchFree, Cond.code yX1_matchFree cX1_matchFree 2 (some .int), Cond.methodLink RX1 101 yX1_uniteBestFreePair, Cond.instanceMethod yX1_uniteBestFreePair, Cond.selects RX1 yX1_uniteBestFreePair yX1_uniteBestFreePair, Cond.code yX1_uniteBestFreePair cX1_uniteBestFreePair 6 (some .boolean), Cond.methodLink RX1 105 yX1_canBecomePartners, Cond.instanceMethod yX1_canBecomePartners, Cond.selects RX1 yX1_canBecomePartners yX1_canBecomePartners, Cond.code yX1_canBecomePartners cX1_canBecomePartners 3 (some .boolean), Cond.methodLink RX1 52 yX1_isFree, Cond.instanceMethod yX1_isFree]
def wsX5_simulate_r3 : List Cond := [Cond.selects RX1 yX1_isFree yX1_isFree, Cond.code yX1_isFree cX1_isFree 2 (some .boolean), Cond.fieldLink RX1 29 "TandemExchange$Member" "partner" "I", Cond.methodLink RX1 74 yX1_fit, Cond.instanceMethod yX1_fit, Cond.selects RX1 yX1_fit yX1_fit, Cond.code yX1_fit cX1_fit 3 (some .boolean), Cond.methodLink RX1 62 yX1_lead, Cond.instanceMethod yX1_lead, Cond.selects RX1 yX1_lead yX1_lead, Cond.code yX1_lead cX1_lead 4 (some .int), Cond.fieldLink RX1 40 "TandemExchange$Member" "wants" "I", Cond.fieldLink RX1 36 "TandemExchange$Member" "levels" "[I", Cond.methodLink RX1 84 yX1_value, Cond.instanceMethod yX1_value, Cond.selects RX1 yX1_value yX1_value, Cond.code yX1_value cX1_value 3 (some .int), Cond.methodLink RX1 71 yX1_score, Cond.instanceMethod yX1_score, Cond.selects RX1 yX1_score yX1_score, Cond.code yX1_score cX1_score 4 (some .int), Cond.fieldLink RX1 49 "TandemExchange$Member" "missed" "I", Cond.fieldLink RX1 46 "TandemExchange$Member" "credits" "I", Cond.methodLink RX1 66 yJ9_floorDiv_7cf53]
def wsX5_simulate_r4 : List Cond := [Cond.static yJ9_floorDiv_7cf53, Cond.initialized RJ9, Cond.code yJ9_floorDiv_7cf53 cJ9_floorDiv_7cf53 3 (some .int), Cond.methodLink RX1 32 yX1_has, Cond.instanceMethod yX1_has, Cond.selects RX1 yX1_has yX1_has, Cond.code yX1_has cX1_has 2 (some .boolean), Cond.methodLink RX1 108 yX1_unite, Cond.instanceMethod yX1_unite, Cond.selects RX1 yX1_unite yX1_unite, Cond.code yX1_unite cX1_unite 3 none, Cond.fieldLink RX1 55 "TandemExchange$Member" "missedInRow" "I", Cond.methodLink RX5 192 yX1_passWeek, Cond.instanceMethod yX1_passWeek, Cond.selects RX1 yX1_passWeek yX1_passWeek, Cond.code yX1_passWeek cX1_passWeek 4 none, Cond.methodLink RX1 81 yX1_greaterPartner, Cond.instanceMethod yX1_greaterPartner, Cond.selects RX1 yX1_greaterPartner yX1_greaterPartner, Cond.code yX1_greaterPartner cX1_greaterPartner 3 (some .int), Cond.methodLink RX1 115 yX1_passWeekOfPair, Cond.instanceMethod yX1_passWeekOfPair, Cond.selects RX1 yX1_passWeekOfPair yX1_passWeekOfPair, Cond.code yX1_passWeekOfPair cX1_passWeekOfPair 8 none]
def wsX5_simulate_r5 : List Cond := [Cond.methodLink RX1 118 yX3_failToMeet, Cond.instanceMethod yX3_failToMeet, Cond.selects RX3 yX3_failToMeet yX3_failToMeet, Cond.code yX3_failToMeet cX3_failToMeet 2 none, Cond.methodLink RX3 49 yX3_gainCredits, Cond.instanceMethod yX3_gainCredits, Cond.selects RX3 yX3_gainCredits yX3_gainCredits, Cond.code yX3_gainCredits cX3_gainCredits 2 none, Cond.methodLink RX3 40 Lib.Math.min.name, Cond.static Lib.Math.min.name, Cond.initialized "java/lang/Math", Cond.code Lib.Math.min.name Lib.Math.min.code 2 (some .int), Cond.methodLink RX3 46 Lib.Math.max.name, Cond.static Lib.Math.max.name, Cond.code Lib.Math.max.name Lib.Math.max.code 2 (some .int), Cond.methodLink RX1 122 yX1_pointsOfMeeting, Cond.instanceMethod yX1_pointsOfMeeting, Cond.selects RX1 yX1_pointsOfMeeting yX1_pointsOfMeeting, Cond.code yX1_pointsOfMeeting cX1_pointsOfMeeting 3 (some .int), Cond.methodLink RX1 128 Lib.Math.max.name, Cond.methodLink RX1 125 yX3_meet, Cond.instanceMethod yX3_meet, Cond.selects RX3 yX3_meet yX3_meet, Cond.code yX3_meet cX3_meet 2 none]
def wsX5_simulate_r6 : List Cond := [Cond.methodLink RX3 53 yX3_learn, Cond.instanceMethod yX3_learn, Cond.selects RX3 yX3_learn yX3_learn, Cond.code yX3_learn cX3_learn 2 none, Cond.methodLink RX1 94 yX1_separate, Cond.instanceMethod yX1_separate, Cond.selects RX1 yX1_separate yX1_separate, Cond.code yX1_separate cX1_separate 3 none, Cond.methodLink RX5 95 yX1_sumOfCredits, Cond.instanceMethod yX1_sumOfCredits, Cond.selects RX1 yX1_sumOfCredits yX1_sumOfCredits, Cond.code yX1_sumOfCredits cX1_sumOfCredits 3 (some .int)]
def wsX5_simulate : List Cond := .code yX5_simulate cX5_simulate 8 (some .int) :: ((wsX5_simulate_r1 ++ (wsX5_simulate_r2 ++ (wsX5_simulate_r3 ++ (wsX5_simulate_r4 ++ (wsX5_simulate_r5 ++ wsX5_simulate_r6))))) ++ wsX50 ++ wsX10 ++ wsX30 ++ (vx_atS RX5 105 "java/lang/IllegalArgumentException" ["java/lang/RuntimeException", "java/lang/Exception"]).filter goodWord)
def wsX5_requireSlot : List Cond := .code yX5_requireSlot cX5_requireSlot 1 none :: ([.classLink RX5 255 "java/lang/IndexOutOfBoundsException", .initialized "java/lang/IndexOutOfBoundsException"] ++ (vx_atS RX5 259 "java/lang/IndexOutOfBoundsException" ["java/lang/RuntimeException", "java/lang/Exception"]).filter goodWord)
def wsX5_save_r1 : List Cond := [Cond.fieldLink RX5 33 "TandemExchange" "slots" "[LTandemExchange$Circle;", Cond.fieldLink RX5 19 "TandemExchange" "circle" "LTandemExchange$Circle;", Cond.fieldLink RX5 37 "TandemExchange" "saved" "[Z", Cond.fieldLink RX5 86 "TandemExchange$Circle" "weeks" "I", Cond.methodLink RX5 247 yX5_requireSlot, Cond.static yX5_requireSlot, Cond.initialized RX5, Cond.code yX5_requireSlot cX5_requireSlot 1 none, Cond.classLink RX5 255 "java/lang/IndexOutOfBoundsException", Cond.initialized "java/lang/IndexOutOfBoundsException", Cond.methodLink RX5 226 yX1_copyFrom, Cond.instanceMethod yX1_copyFrom, Cond.selects RX1 yX1_copyFrom yX1_copyFrom, Cond.initialized RX1, Cond.code yX1_copyFrom cX1_copyFrom 3 none, Cond.fieldLink RX1 18 "TandemExchange$Circle" "size" "I", Cond.fieldLink RX1 11 "TandemExchange$Circle" "members" "[LTandemExchange$Member;", Cond.fieldLink RX1 26 "TandemExchange$Circle" "weeks" "I", Cond.methodLink RX1 22 yX3_copyFrom, Cond.instanceMethod yX3_copyFrom, Cond.selects RX3 yX3_copyFrom yX3_copyFrom, Cond.initialized RX3, Cond.code yX3_copyFrom cX3_copyFrom 2 none, Cond.fieldLink RX3 9 "TandemExchange$Member" "levels" "[I"]
def wsX5_save_r2 : List Cond := [Cond.methodLink RX3 15 arraycopyName, Cond.native arraycopyName, Cond.static arraycopyName, Cond.initialized "java/lang/System", Cond.fieldLink RX3 21 "TandemExchange$Member" "wants" "I", Cond.fieldLink RX3 25 "TandemExchange$Member" "progress" "I", Cond.fieldLink RX3 28 "TandemExchange$Member" "credits" "I", Cond.fieldLink RX3 31 "TandemExchange$Member" "missed" "I", Cond.fieldLink RX3 34 "TandemExchange$Member" "partner" "I", Cond.fieldLink RX3 37 "TandemExchange$Member" "missedInRow" "I"]
def wsX5_save : List Cond := .code yX5_save cX5_save 2 (some .int) :: ((wsX5_save_r1 ++ wsX5_save_r2) ++ wsX50 ++ wsX10 ++ wsX30 ++ (vx_atS RX5 259 "java/lang/IndexOutOfBoundsException" ["java/lang/RuntimeException", "java/lang/Exception"]).filter goodWord)
def wsX5_restore_r1 : List Cond := [Cond.classLink RX5 56 "java/lang/IllegalStateException", Cond.initialized "java/lang/IllegalStateException", Cond.fieldLink RX5 37 "TandemExchange" "saved" "[Z", Cond.fieldLink RX5 19 "TandemExchange" "circle" "LTandemExchange$Circle;", Cond.fieldLink RX5 33 "TandemExchange" "slots" "[LTandemExchange$Circle;", Cond.fieldLink RX5 29 "TandemExchange" "history" "LTandemExchange$History;", Cond.fieldLink RX5 86 "TandemExchange$Circle" "weeks" "I", Cond.methodLink RX5 247 yX5_requireSlot, Cond.static yX5_requireSlot, Cond.initialized RX5, Cond.code yX5_requireSlot cX5_requireSlot 1 none, Cond.classLink RX5 255 "java/lang/IndexOutOfBoundsException", Cond.initialized "java/lang/IndexOutOfBoundsException", Cond.methodLink RX5 226 yX1_copyFrom, Cond.instanceMethod yX1_copyFrom, Cond.selects RX1 yX1_copyFrom yX1_copyFrom, Cond.initialized RX1, Cond.code yX1_copyFrom cX1_copyFrom 3 none, Cond.fieldLink RX1 18 "TandemExchange$Circle" "size" "I", Cond.fieldLink RX1 11 "TandemExchange$Circle" "members" "[LTandemExchange$Member;", Cond.fieldLink RX1 26 "TandemExchange$Circle" "weeks" "I", Cond.methodLink RX1 22 yX3_copyFrom, Cond.instanceMethod yX3_copyFrom, Cond.selects RX3 yX3_copyFrom yX3_copyFrom]
def wsX5_restore_r2 : List Cond := [Cond.initialized RX3, Cond.code yX3_copyFrom cX3_copyFrom 2 none, Cond.fieldLink RX3 9 "TandemExchange$Member" "levels" "[I", Cond.methodLink RX3 15 arraycopyName, Cond.native arraycopyName, Cond.static arraycopyName, Cond.initialized "java/lang/System", Cond.fieldLink RX3 21 "TandemExchange$Member" "wants" "I", Cond.fieldLink RX3 25 "TandemExchange$Member" "progress" "I", Cond.fieldLink RX3 28 "TandemExchange$Member" "credits" "I", Cond.fieldLink RX3 31 "TandemExchange$Member" "missed" "I", Cond.fieldLink RX3 34 "TandemExchange$Member" "partner" "I", Cond.fieldLink RX3 37 "TandemExchange$Member" "missedInRow" "I", Cond.methodLink RX5 77 yX2_forget, Cond.instanceMethod yX2_forget, Cond.selects RX2 yX2_forget yX2_forget, Cond.initialized RX2, Cond.code yX2_forget cX2_forget 1 none, Cond.fieldLink RX2 18 "TandemExchange$History" "count" "I"]
def wsX5_restore : List Cond := .code yX5_restore cX5_restore 2 (some .int) :: ((wsX5_restore_r1 ++ wsX5_restore_r2) ++ wsX50 ++ wsX10 ++ wsX30 ++ wsX20 ++ (vx_atS RX5 60 "java/lang/IllegalStateException" ["java/lang/RuntimeException", "java/lang/Exception"]).filter goodWord ++ (vx_atS RX5 259 "java/lang/IndexOutOfBoundsException" ["java/lang/RuntimeException", "java/lang/Exception"]).filter goodWord)
def wsX6_init : List Cond := .code yX6_init cX6_init 1 none :: ([.methodLink RX6 1 objectInit, .instanceMethod objectInit, .code objectInit ⟨#[0xb1]⟩ 1 none, .arrayClass .int, .fieldLink RX6 7 "TandemExchangeModel" "text" "[I", .fieldLink RX6 13 "TandemExchangeModel" "read" "[I", .fieldLink RX6 16 "TandemExchangeModel" "now" "[I", .fieldLink RX6 19 "TandemExchangeModel" "trial" "[I", .fieldLink RX6 22 "TandemExchangeModel" "diary" "[I", .fieldLink RX6 25 "TandemExchangeModel" "kept" "[I", .arrayClass .boolean, .fieldLink RX6 28 "TandemExchangeModel" "isKept" "[Z", .fieldLink RX6 32 "TandemExchangeModel" "pairs" "[I", .fieldLink RX6 35 "TandemExchangeModel" "sums" "[I"] ++ wsX60)
def wsX6_thrown : List Cond := .code yX6_thrown cX6_thrown 1 (some .int) :: ([.fieldLink RX6 38 "TandemExchangeModel" "refusal" "I"] ++ wsX60)
def wsX6_refused : List Cond := .code yX6_refused cX6_refused 2 (some .boolean) :: ([.fieldLink RX6 38 "TandemExchangeModel" "refusal" "I"] ++ wsX60)
def wsX6_in : List Cond := .code yX6_in cX6_in 6 (some .boolean) :: ([])
def wsX6_copyPage : List Cond := .code yX6_copyPage cX6_copyPage 5 none :: ([])
def wsX6_at : List Cond := .code yX6_at cX6_at 1 (some .int) :: ([])
def wsX6_isMember : List Cond := .code yX6_isMember cX6_isMember 2 (some .boolean) :: ([.methodLink RX6 42 yX6_in, .static yX6_in, .initialized RX6, .code yX6_in cX6_in 6 (some .boolean)])
def wsX6_better : List Cond := .code yX6_better cX6_better 4 (some .int) :: ([.methodLink RX6 46 yX6_at, .static yX6_at, .initialized RX6, .code yX6_at cX6_at 1 (some .int)])
def wsX6_quarter : List Cond := .code yX6_quarter cX6_quarter 1 (some .int) :: ([])
def wsX6_score : List Cond := .code yX6_score cX6_score 3 (some .int) :: ([.methodLink RX6 50 yX6_better, .static yX6_better, .initialized RX6, .code yX6_better cX6_better 4 (some .int), .methodLink RX6 46 yX6_at, .static yX6_at, .code yX6_at cX6_at 1 (some .int), .methodLink RX6 54 yX6_quarter, .static yX6_quarter, .code yX6_quarter cX6_quarter 1 (some .int)])
def wsX6_valueOf : List Cond := .code yX6_valueOf cX6_valueOf 3 (some .int) :: ([.methodLink RX6 57 yX6_score, .static yX6_score, .initialized RX6, .code yX6_score cX6_score 3 (some .int), .methodLink RX6 50 yX6_better, .static yX6_better, .code yX6_better cX6_better 4 (some .int), .methodLink RX6 46 yX6_at, .static yX6_at, .code yX6_at cX6_at 1 (some .int), .methodLink RX6 54 yX6_quarter, .static yX6_quarter, .code yX6_quarter cX6_quarter 1 (some .int)])
def wsX6_fit : List Cond := .code yX6_fit cX6_fit 3 (some .boolean) :: ([.methodLink RX6 50 yX6_better, .static yX6_better, .initialized RX6, .code yX6_better cX6_better 4 (some .int), .methodLink RX6 46 yX6_at, .static yX6_at, .code yX6_at cX6_at 1 (some .int)])
def wsX6_isFree : List Cond := .code yX6_isFree cX6_isFree 2 (some .boolean) :: ([.methodLink RX6 46 yX6_at, .static yX6_at, .initialized RX6, .code yX6_at cX6_at 1 (some .int)])
def wsX6_prefers : List Cond := .code yX6_prefers cX6_prefers 3 (some .boolean) :: ([.methodLink RX6 60 yX6_isFree, .static yX6_isFree, .initialized RX6, .code yX6_isFree cX6_isFree 2 (some .boolean), .methodLink RX6 46 yX6_at, .static yX6_at, .code yX6_at cX6_at 1 (some .int), .methodLink RX6 57 yX6_score, .static yX6_score, .code yX6_score cX6_score 3 (some .int), .methodLink RX6 50 yX6_better, .static yX6_better, .code yX6_better cX6_better 4 (some .int), .methodLink RX6 54 yX6_quarter, .static yX6_quarter, .code yX6_quarter cX6_quarter 1 (some .int)])
def wsX6_block : List Cond := .code yX6_block cX6_block 3 (some .boolean) :: ([.methodLink RX6 64 yX6_fit, .static yX6_fit, .initialized RX6, .code yX6_fit cX6_fit 3 (some .boolean), .methodLink RX6 50 yX6_better, .static yX6_better, .code yX6_better cX6_better 4 (some .int), .methodLink RX6 46 yX6_at, .static yX6_at, .code yX6_at cX6_at 1 (some .int), .methodLink RX6 68 yX6_prefers, .static yX6_prefers, .code yX6_prefers cX6_prefers 3 (some .boolean), .methodLink RX6 60 yX6_isFree, .static yX6_isFree, .code yX6_isFree cX6_isFree 2 (some .boolean), .methodLink RX6 57 yX6_score, .static yX6_score, .code yX6_score cX6_score 3 (some .int), .methodLink RX6 54 yX6_quarter, .static yX6_quarter, .code yX6_quarter cX6_quarter 1 (some .int)])
def wsX6_free : List Cond := .code yX6_free cX6_free 2 none :: ([.methodLink RX6 46 yX6_at, .static yX6_at, .initialized RX6, .code yX6_at cX6_at 1 (some .int)])
def wsX6_partOn : List Cond := .code yX6_partOn cX6_partOn 3 none :: ([.methodLink RX6 46 yX6_at, .static yX6_at, .initialized RX6, .code yX6_at cX6_at 1 (some .int), .methodLink RX6 71 yX6_free, .static yX6_free, .code yX6_free cX6_free 2 none])
def wsX6_pairOn : List Cond := .code yX6_pairOn cX6_pairOn 3 none :: ([.methodLink RX6 75 yX6_partOn, .static yX6_partOn, .initialized RX6, .code yX6_partOn cX6_partOn 3 none, .methodLink RX6 46 yX6_at, .static yX6_at, .code yX6_at cX6_at 1 (some .int), .methodLink RX6 71 yX6_free, .static yX6_free, .code yX6_free cX6_free 2 none])
def wsX6_mend : List Cond := .code yX6_mend cX6_mend 3 none :: ([.methodLink RX6 46 yX6_at, .static yX6_at, .initialized RX6, .code yX6_at cX6_at 1 (some .int), .methodLink RX6 64 yX6_fit, .static yX6_fit, .code yX6_fit cX6_fit 3 (some .boolean), .methodLink RX6 50 yX6_better, .static yX6_better, .code yX6_better cX6_better 4 (some .int), .methodLink RX6 75 yX6_partOn, .static yX6_partOn, .code yX6_partOn cX6_partOn 3 none, .methodLink RX6 71 yX6_free, .static yX6_free, .code yX6_free cX6_free 2 none])
def wsX6_matchOn_r1 : List Cond := [Cond.methodLink RX6 60 yX6_isFree, Cond.static yX6_isFree, Cond.initialized RX6, Cond.code yX6_isFree cX6_isFree 2 (some .boolean), Cond.methodLink RX6 46 yX6_at, Cond.static yX6_at, Cond.code yX6_at cX6_at 1 (some .int), Cond.methodLink RX6 64 yX6_fit, Cond.static yX6_fit, Cond.code yX6_fit cX6_fit 3 (some .boolean), Cond.methodLink RX6 50 yX6_better, Cond.static yX6_better, Cond.code yX6_better cX6_better 4 (some .int), Cond.methodLink RX6 78 yX6_valueOf, Cond.static yX6_valueOf, Cond.code yX6_valueOf cX6_valueOf 3 (some .int), Cond.methodLink RX6 57 yX6_score, Cond.static yX6_score, Cond.code yX6_score cX6_score 3 (some .int), Cond.methodLink RX6 54 yX6_quarter, Cond.static yX6_quarter, Cond.code yX6_quarter cX6_quarter 1 (some .int), Cond.methodLink RX6 81 yX6_pairOn, Cond.static yX6_pairOn]
def wsX6_matchOn_r2 : List Cond := [Cond.code yX6_pairOn cX6_pairOn 3 none, Cond.methodLink RX6 75 yX6_partOn, Cond.static yX6_partOn, Cond.code yX6_partOn cX6_partOn 3 none, Cond.methodLink RX6 71 yX6_free, Cond.static yX6_free, Cond.code yX6_free cX6_free 2 none]
def wsX6_matchOn : List Cond := .code yX6_matchOn cX6_matchOn 8 (some .int) :: ((wsX6_matchOn_r1 ++ wsX6_matchOn_r2))
def wsX6_blockAt_r1 : List Cond := [Cond.methodLink RX6 85 yX6_block, Cond.static yX6_block, Cond.initialized RX6, Cond.code yX6_block cX6_block 3 (some .boolean), Cond.methodLink RX6 64 yX6_fit, Cond.static yX6_fit, Cond.code yX6_fit cX6_fit 3 (some .boolean), Cond.methodLink RX6 50 yX6_better, Cond.static yX6_better, Cond.code yX6_better cX6_better 4 (some .int), Cond.methodLink RX6 46 yX6_at, Cond.static yX6_at, Cond.code yX6_at cX6_at 1 (some .int), Cond.methodLink RX6 68 yX6_prefers, Cond.static yX6_prefers, Cond.code yX6_prefers cX6_prefers 3 (some .boolean), Cond.methodLink RX6 60 yX6_isFree, Cond.static yX6_isFree, Cond.code yX6_isFree cX6_isFree 2 (some .boolean), Cond.methodLink RX6 57 yX6_score, Cond.static yX6_score, Cond.code yX6_score cX6_score 3 (some .int), Cond.methodLink RX6 54 yX6_quarter, Cond.static yX6_quarter]
def wsX6_blockAt_r2 : List Cond := [Cond.code yX6_quarter cX6_quarter 1 (some .int)]
def wsX6_blockAt : List Cond := .code yX6_blockAt cX6_blockAt 5 (some .int) :: ((wsX6_blockAt_r1 ++ wsX6_blockAt_r2))
def wsX6_settleOn_r1 : List Cond := [Cond.methodLink RX6 88 yX6_blockAt, Cond.static yX6_blockAt, Cond.initialized RX6, Cond.code yX6_blockAt cX6_blockAt 5 (some .int), Cond.methodLink RX6 85 yX6_block, Cond.static yX6_block, Cond.code yX6_block cX6_block 3 (some .boolean), Cond.methodLink RX6 64 yX6_fit, Cond.static yX6_fit, Cond.code yX6_fit cX6_fit 3 (some .boolean), Cond.methodLink RX6 50 yX6_better, Cond.static yX6_better, Cond.code yX6_better cX6_better 4 (some .int), Cond.methodLink RX6 46 yX6_at, Cond.static yX6_at, Cond.code yX6_at cX6_at 1 (some .int), Cond.methodLink RX6 68 yX6_prefers, Cond.static yX6_prefers, Cond.code yX6_prefers cX6_prefers 3 (some .boolean), Cond.methodLink RX6 60 yX6_isFree, Cond.static yX6_isFree, Cond.code yX6_isFree cX6_isFree 2 (some .boolean), Cond.methodLink RX6 57 yX6_score, Cond.static yX6_score]
def wsX6_settleOn_r2 : List Cond := [Cond.code yX6_score cX6_score 3 (some .int), Cond.methodLink RX6 54 yX6_quarter, Cond.static yX6_quarter, Cond.code yX6_quarter cX6_quarter 1 (some .int), Cond.methodLink RX6 81 yX6_pairOn, Cond.static yX6_pairOn, Cond.code yX6_pairOn cX6_pairOn 3 none, Cond.methodLink RX6 75 yX6_partOn, Cond.static yX6_partOn, Cond.code yX6_partOn cX6_partOn 3 none, Cond.methodLink RX6 71 yX6_free, Cond.static yX6_free, Cond.code yX6_free cX6_free 2 none]
def wsX6_settleOn : List Cond := .code yX6_settleOn cX6_settleOn 4 (some .int) :: ((wsX6_settleOn_r1 ++ wsX6_settleOn_r2))
def wsX6_credit : List Cond := .code yX6_credit cX6_credit 4 none :: ([.methodLink RX6 46 yX6_at, .static yX6_at, .initialized RX6, .code yX6_at cX6_at 1 (some .int)])
def wsX6_learn : List Cond := .code yX6_learn cX6_learn 5 none :: ([.methodLink RX6 46 yX6_at, .static yX6_at, .initialized RX6, .code yX6_at cX6_at 1 (some .int)])
def wsX6_miss : List Cond := .code yX6_miss cX6_miss 3 none :: ([.methodLink RX6 46 yX6_at, .static yX6_at, .initialized RX6, .code yX6_at cX6_at 1 (some .int), .methodLink RX6 92 yX6_credit, .static yX6_credit, .code yX6_credit cX6_credit 4 none])
def wsX6_meet : List Cond := .code yX6_meet cX6_meet 8 none :: ([.methodLink RX6 95 yX6_miss, .static yX6_miss, .initialized RX6, .code yX6_miss cX6_miss 3 none, .methodLink RX6 46 yX6_at, .static yX6_at, .code yX6_at cX6_at 1 (some .int), .methodLink RX6 92 yX6_credit, .static yX6_credit, .code yX6_credit cX6_credit 4 none, .methodLink RX6 50 yX6_better, .static yX6_better, .code yX6_better cX6_better 4 (some .int), .methodLink RX6 99 yX6_learn, .static yX6_learn, .code yX6_learn cX6_learn 5 none])
def wsX6_weekOn_r1 : List Cond := [Cond.methodLink RX6 46 yX6_at, Cond.static yX6_at, Cond.initialized RX6, Cond.code yX6_at cX6_at 1 (some .int), Cond.methodLink RX6 102 yX6_meet, Cond.static yX6_meet, Cond.code yX6_meet cX6_meet 8 none, Cond.methodLink RX6 95 yX6_miss, Cond.static yX6_miss, Cond.code yX6_miss cX6_miss 3 none, Cond.methodLink RX6 92 yX6_credit, Cond.static yX6_credit, Cond.code yX6_credit cX6_credit 4 none, Cond.methodLink RX6 50 yX6_better, Cond.static yX6_better, Cond.code yX6_better cX6_better 4 (some .int), Cond.methodLink RX6 99 yX6_learn, Cond.static yX6_learn, Cond.code yX6_learn cX6_learn 5 none, Cond.methodLink RX6 64 yX6_fit, Cond.static yX6_fit, Cond.code yX6_fit cX6_fit 3 (some .boolean), Cond.methodLink RX6 75 yX6_partOn, Cond.static yX6_partOn]
def wsX6_weekOn_r2 : List Cond := [Cond.code yX6_partOn cX6_partOn 3 none, Cond.methodLink RX6 71 yX6_free, Cond.static yX6_free, Cond.code yX6_free cX6_free 2 none]
def wsX6_weekOn : List Cond := .code yX6_weekOn cX6_weekOn 4 none :: ((wsX6_weekOn_r1 ++ wsX6_weekOn_r2))
def wsX6_laySets : List Cond := .code yX6_laySets cX6_laySets 10 none :: ([.fieldLink RX6 32 "TandemExchangeModel" "pairs" "[I", .fieldLink RX6 35 "TandemExchangeModel" "sums" "[I", .methodLink RX6 64 yX6_fit, .static yX6_fit, .initialized RX6, .code yX6_fit cX6_fit 3 (some .boolean), .methodLink RX6 50 yX6_better, .static yX6_better, .code yX6_better cX6_better 4 (some .int), .methodLink RX6 46 yX6_at, .static yX6_at, .code yX6_at cX6_at 1 (some .int), .methodLink RX6 78 yX6_valueOf, .static yX6_valueOf, .code yX6_valueOf cX6_valueOf 3 (some .int), .methodLink RX6 57 yX6_score, .static yX6_score, .code yX6_score cX6_score 3 (some .int), .methodLink RX6 54 yX6_quarter, .static yX6_quarter, .code yX6_quarter cX6_quarter 1 (some .int)] ++ wsX60)
def wsX6_append : List Cond := .code yX6_append cX6_append 2 (some .int) :: ([.constantLong RX6 106 (255), .fieldLink RX6 108 "TandemExchangeModel" "textSize" "I", .fieldLink RX6 7 "TandemExchangeModel" "text" "[I", .methodLink RX6 42 yX6_in, .static yX6_in, .initialized RX6, .code yX6_in cX6_in 6 (some .boolean), .methodLink RX6 111 yX6_refused, .instanceMethod yX6_refused, .selects RX6 yX6_refused yX6_refused, .code yX6_refused cX6_refused 2 (some .boolean), .fieldLink RX6 38 "TandemExchangeModel" "refusal" "I"] ++ wsX60)
def wsX6_clearText : List Cond := .code yX6_clearText cX6_clearText 2 (some .int) :: ([.fieldLink RX6 38 "TandemExchangeModel" "refusal" "I", .fieldLink RX6 108 "TandemExchangeModel" "textSize" "I"] ++ wsX60)
def wsX6_eat : List Cond := .code yX6_eat cX6_eat 3 (some .boolean) :: ([.fieldLink RX6 115 "TandemExchangeModel" "spot" "I", .fieldLink RX6 108 "TandemExchangeModel" "textSize" "I", .fieldLink RX6 7 "TandemExchangeModel" "text" "[I"] ++ wsX60)
def wsX6_digit : List Cond := .code yX6_digit cX6_digit 4 (some .int) :: ([.fieldLink RX6 115 "TandemExchangeModel" "spot" "I", .fieldLink RX6 108 "TandemExchangeModel" "textSize" "I", .fieldLink RX6 7 "TandemExchangeModel" "text" "[I", .methodLink RX6 42 yX6_in, .static yX6_in, .initialized RX6, .code yX6_in cX6_in 6 (some .boolean)] ++ wsX60)
def wsX6_readMember : List Cond := .code yX6_readMember cX6_readMember 5 (some .boolean) :: ([.fieldLink RX6 13 "TandemExchangeModel" "read" "[I", .methodLink RX6 46 yX6_at, .static yX6_at, .initialized RX6, .code yX6_at cX6_at 1 (some .int), .methodLink RX6 118 yX6_digit, .instanceMethod yX6_digit, .selects RX6 yX6_digit yX6_digit, .code yX6_digit cX6_digit 4 (some .int), .fieldLink RX6 115 "TandemExchangeModel" "spot" "I", .fieldLink RX6 108 "TandemExchangeModel" "textSize" "I", .fieldLink RX6 7 "TandemExchangeModel" "text" "[I", .methodLink RX6 42 yX6_in, .static yX6_in, .code yX6_in cX6_in 6 (some .boolean), .methodLink RX6 71 yX6_free, .static yX6_free, .code yX6_free cX6_free 2 none] ++ wsX60)
def wsX6_readAll_r1 : List Cond := [Cond.fieldLink RX6 115 "TandemExchangeModel" "spot" "I", Cond.fieldLink RX6 13 "TandemExchangeModel" "read" "[I", Cond.fieldLink RX6 108 "TandemExchangeModel" "textSize" "I", Cond.methodLink RX6 121 yX6_eat, Cond.instanceMethod yX6_eat, Cond.selects RX6 yX6_eat yX6_eat, Cond.initialized RX6, Cond.code yX6_eat cX6_eat 3 (some .boolean), Cond.fieldLink RX6 7 "TandemExchangeModel" "text" "[I", Cond.methodLink RX6 124 yX6_readMember, Cond.instanceMethod yX6_readMember, Cond.selects RX6 yX6_readMember yX6_readMember, Cond.code yX6_readMember cX6_readMember 5 (some .boolean), Cond.methodLink RX6 46 yX6_at, Cond.static yX6_at, Cond.code yX6_at cX6_at 1 (some .int), Cond.methodLink RX6 118 yX6_digit, Cond.instanceMethod yX6_digit, Cond.selects RX6 yX6_digit yX6_digit, Cond.code yX6_digit cX6_digit 4 (some .int), Cond.methodLink RX6 42 yX6_in, Cond.static yX6_in, Cond.code yX6_in cX6_in 6 (some .boolean), Cond.methodLink RX6 71 yX6_free]
def wsX6_readAll_r2 : List Cond := [Cond.static yX6_free, Cond.code yX6_free cX6_free 2 none]
def wsX6_readAll : List Cond := .code yX6_readAll cX6_readAll 1 (some .boolean) :: ((wsX6_readAll_r1 ++ wsX6_readAll_r2) ++ wsX60)
def wsX6_errorPosition_r1 : List Cond := [Cond.fieldLink RX6 38 "TandemExchangeModel" "refusal" "I", Cond.fieldLink RX6 115 "TandemExchangeModel" "spot" "I", Cond.methodLink RX6 128 yX6_readAll, Cond.instanceMethod yX6_readAll, Cond.selects RX6 yX6_readAll yX6_readAll, Cond.initialized RX6, Cond.code yX6_readAll cX6_readAll 1 (some .boolean), Cond.fieldLink RX6 13 "TandemExchangeModel" "read" "[I", Cond.fieldLink RX6 108 "TandemExchangeModel" "textSize" "I", Cond.methodLink RX6 121 yX6_eat, Cond.instanceMethod yX6_eat, Cond.selects RX6 yX6_eat yX6_eat, Cond.code yX6_eat cX6_eat 3 (some .boolean), Cond.fieldLink RX6 7 "TandemExchangeModel" "text" "[I", Cond.methodLink RX6 124 yX6_readMember, Cond.instanceMethod yX6_readMember, Cond.selects RX6 yX6_readMember yX6_readMember, Cond.code yX6_readMember cX6_readMember 5 (some .boolean), Cond.methodLink RX6 46 yX6_at, Cond.static yX6_at, Cond.code yX6_at cX6_at 1 (some .int), Cond.methodLink RX6 118 yX6_digit, Cond.instanceMethod yX6_digit, Cond.selects RX6 yX6_digit yX6_digit]
def wsX6_errorPosition_r2 : List Cond := [Cond.code yX6_digit cX6_digit 4 (some .int), Cond.methodLink RX6 42 yX6_in, Cond.static yX6_in, Cond.code yX6_in cX6_in 6 (some .boolean), Cond.methodLink RX6 71 yX6_free, Cond.static yX6_free, Cond.code yX6_free cX6_free 2 none]
def wsX6_errorPosition : List Cond := .code yX6_errorPosition cX6_errorPosition 1 (some .int) :: ((wsX6_errorPosition_r1 ++ wsX6_errorPosition_r2) ++ wsX60)
def wsX6_load_r1 : List Cond := [Cond.fieldLink RX6 13 "TandemExchangeModel" "read" "[I", Cond.fieldLink RX6 16 "TandemExchangeModel" "now" "[I", Cond.fieldLink RX6 135 "TandemExchangeModel" "acts" "I", Cond.fieldLink RX6 28 "TandemExchangeModel" "isKept" "[Z", Cond.methodLink RX6 128 yX6_readAll, Cond.instanceMethod yX6_readAll, Cond.selects RX6 yX6_readAll yX6_readAll, Cond.initialized RX6, Cond.code yX6_readAll cX6_readAll 1 (some .boolean), Cond.fieldLink RX6 115 "TandemExchangeModel" "spot" "I", Cond.fieldLink RX6 108 "TandemExchangeModel" "textSize" "I", Cond.methodLink RX6 121 yX6_eat, Cond.instanceMethod yX6_eat, Cond.selects RX6 yX6_eat yX6_eat, Cond.code yX6_eat cX6_eat 3 (some .boolean), Cond.fieldLink RX6 7 "TandemExchangeModel" "text" "[I", Cond.methodLink RX6 124 yX6_readMember, Cond.instanceMethod yX6_readMember, Cond.selects RX6 yX6_readMember yX6_readMember, Cond.code yX6_readMember cX6_readMember 5 (some .boolean), Cond.methodLink RX6 46 yX6_at, Cond.static yX6_at, Cond.code yX6_at cX6_at 1 (some .int), Cond.methodLink RX6 118 yX6_digit]
def wsX6_load_r2 : List Cond := [Cond.instanceMethod yX6_digit, Cond.selects RX6 yX6_digit yX6_digit, Cond.code yX6_digit cX6_digit 4 (some .int), Cond.methodLink RX6 42 yX6_in, Cond.static yX6_in, Cond.code yX6_in cX6_in 6 (some .boolean), Cond.methodLink RX6 71 yX6_free, Cond.static yX6_free, Cond.code yX6_free cX6_free 2 none, Cond.methodLink RX6 111 yX6_refused, Cond.instanceMethod yX6_refused, Cond.selects RX6 yX6_refused yX6_refused, Cond.code yX6_refused cX6_refused 2 (some .boolean), Cond.fieldLink RX6 38 "TandemExchangeModel" "refusal" "I", Cond.methodLink RX6 131 yX6_copyPage, Cond.static yX6_copyPage, Cond.code yX6_copyPage cX6_copyPage 5 none]
def wsX6_load : List Cond := .code yX6_load cX6_load 1 (some .int) :: ((wsX6_load_r1 ++ wsX6_load_r2) ++ wsX60)
def wsX6_over_r1 : List Cond := [Cond.methodLink RX6 46 yX6_at, Cond.static yX6_at, Cond.initialized RX6, Cond.code yX6_at cX6_at 1 (some .int), Cond.methodLink RX6 78 yX6_valueOf, Cond.static yX6_valueOf, Cond.code yX6_valueOf cX6_valueOf 3 (some .int), Cond.methodLink RX6 57 yX6_score, Cond.static yX6_score, Cond.code yX6_score cX6_score 3 (some .int), Cond.methodLink RX6 50 yX6_better, Cond.static yX6_better, Cond.code yX6_better cX6_better 4 (some .int), Cond.methodLink RX6 54 yX6_quarter, Cond.static yX6_quarter, Cond.code yX6_quarter cX6_quarter 1 (some .int), Cond.methodLink RX6 85 yX6_block, Cond.static yX6_block, Cond.code yX6_block cX6_block 3 (some .boolean), Cond.methodLink RX6 64 yX6_fit, Cond.static yX6_fit, Cond.code yX6_fit cX6_fit 3 (some .boolean), Cond.methodLink RX6 68 yX6_prefers, Cond.static yX6_prefers]
def wsX6_over_r2 : List Cond := [Cond.code yX6_prefers cX6_prefers 3 (some .boolean), Cond.methodLink RX6 60 yX6_isFree, Cond.static yX6_isFree, Cond.code yX6_isFree cX6_isFree 2 (some .boolean)]
def wsX6_over : List Cond := .code yX6_over cX6_over 6 (some .int) :: ((wsX6_over_r1 ++ wsX6_over_r2))
def wsX6_creditsOf : List Cond := .code yX6_creditsOf cX6_creditsOf 3 (some .int) :: ([.methodLink RX6 46 yX6_at, .static yX6_at, .initialized RX6, .code yX6_at cX6_at 1 (some .int)])
def wsX6_about_r1 : List Cond := [Cond.constantLong RX6 138 (6), Cond.fieldLink RX6 16 "TandemExchangeModel" "now" "[I", Cond.methodLink RX6 42 yX6_in, Cond.static yX6_in, Cond.initialized RX6, Cond.code yX6_in cX6_in 6 (some .boolean), Cond.methodLink RX6 111 yX6_refused, Cond.instanceMethod yX6_refused, Cond.selects RX6 yX6_refused yX6_refused, Cond.code yX6_refused cX6_refused 2 (some .boolean), Cond.fieldLink RX6 38 "TandemExchangeModel" "refusal" "I", Cond.methodLink RX6 140 yX6_over, Cond.static yX6_over, Cond.code yX6_over cX6_over 6 (some .int), Cond.methodLink RX6 46 yX6_at, Cond.static yX6_at, Cond.code yX6_at cX6_at 1 (some .int), Cond.methodLink RX6 78 yX6_valueOf, Cond.static yX6_valueOf, Cond.code yX6_valueOf cX6_valueOf 3 (some .int), Cond.methodLink RX6 57 yX6_score, Cond.static yX6_score, Cond.code yX6_score cX6_score 3 (some .int), Cond.methodLink RX6 50 yX6_better]
def wsX6_about_r2 : List Cond := [Cond.static yX6_better, Cond.code yX6_better cX6_better 4 (some .int), Cond.methodLink RX6 54 yX6_quarter, Cond.static yX6_quarter, Cond.code yX6_quarter cX6_quarter 1 (some .int), Cond.methodLink RX6 85 yX6_block, Cond.static yX6_block, Cond.code yX6_block cX6_block 3 (some .boolean), Cond.methodLink RX6 64 yX6_fit, Cond.static yX6_fit, Cond.code yX6_fit cX6_fit 3 (some .boolean), Cond.methodLink RX6 68 yX6_prefers, Cond.static yX6_prefers, Cond.code yX6_prefers cX6_prefers 3 (some .boolean), Cond.methodLink RX6 60 yX6_isFree, Cond.static yX6_isFree, Cond.code yX6_isFree cX6_isFree 2 (some .boolean), Cond.methodLink RX6 143 yX6_creditsOf, Cond.static yX6_creditsOf, Cond.code yX6_creditsOf cX6_creditsOf 3 (some .int)]
def wsX6_about : List Cond := .code yX6_about cX6_about 2 (some .int) :: ((wsX6_about_r1 ++ wsX6_about_r2) ++ wsX60)
def wsX6_detail : List Cond := .code yX6_detail cX6_detail 5 (some .int) :: ([.methodLink RX6 60 yX6_isFree, .static yX6_isFree, .initialized RX6, .code yX6_isFree cX6_isFree 2 (some .boolean), .methodLink RX6 46 yX6_at, .static yX6_at, .code yX6_at cX6_at 1 (some .int), .methodLink RX6 64 yX6_fit, .static yX6_fit, .code yX6_fit cX6_fit 3 (some .boolean), .methodLink RX6 50 yX6_better, .static yX6_better, .code yX6_better cX6_better 4 (some .int)])
def wsX6_member_r1 : List Cond := [Cond.fieldLink RX6 16 "TandemExchangeModel" "now" "[I", Cond.constantLong RX6 150 (10), Cond.methodLink RX6 147 yX6_isMember, Cond.static yX6_isMember, Cond.initialized RX6, Cond.code yX6_isMember cX6_isMember 2 (some .boolean), Cond.methodLink RX6 42 yX6_in, Cond.static yX6_in, Cond.code yX6_in cX6_in 6 (some .boolean), Cond.methodLink RX6 111 yX6_refused, Cond.instanceMethod yX6_refused, Cond.selects RX6 yX6_refused yX6_refused, Cond.code yX6_refused cX6_refused 2 (some .boolean), Cond.fieldLink RX6 38 "TandemExchangeModel" "refusal" "I", Cond.methodLink RX6 152 yX6_detail, Cond.static yX6_detail, Cond.code yX6_detail cX6_detail 5 (some .int), Cond.methodLink RX6 60 yX6_isFree, Cond.static yX6_isFree, Cond.code yX6_isFree cX6_isFree 2 (some .boolean), Cond.methodLink RX6 46 yX6_at, Cond.static yX6_at, Cond.code yX6_at cX6_at 1 (some .int), Cond.methodLink RX6 64 yX6_fit]
def wsX6_member_r2 : List Cond := [Cond.static yX6_fit, Cond.code yX6_fit cX6_fit 3 (some .boolean), Cond.methodLink RX6 50 yX6_better, Cond.static yX6_better, Cond.code yX6_better cX6_better 4 (some .int)]
def wsX6_member : List Cond := .code yX6_member cX6_member 3 (some .int) :: ((wsX6_member_r1 ++ wsX6_member_r2) ++ wsX60)
def wsX6_both_r1 : List Cond := [Cond.fieldLink RX6 16 "TandemExchangeModel" "now" "[I", Cond.constantLong RX6 155 (3), Cond.methodLink RX6 147 yX6_isMember, Cond.static yX6_isMember, Cond.initialized RX6, Cond.code yX6_isMember cX6_isMember 2 (some .boolean), Cond.methodLink RX6 42 yX6_in, Cond.static yX6_in, Cond.code yX6_in cX6_in 6 (some .boolean), Cond.methodLink RX6 111 yX6_refused, Cond.instanceMethod yX6_refused, Cond.selects RX6 yX6_refused yX6_refused, Cond.code yX6_refused cX6_refused 2 (some .boolean), Cond.fieldLink RX6 38 "TandemExchangeModel" "refusal" "I", Cond.methodLink RX6 57 yX6_score, Cond.static yX6_score, Cond.code yX6_score cX6_score 3 (some .int), Cond.methodLink RX6 50 yX6_better, Cond.static yX6_better, Cond.code yX6_better cX6_better 4 (some .int), Cond.methodLink RX6 46 yX6_at, Cond.static yX6_at, Cond.code yX6_at cX6_at 1 (some .int), Cond.methodLink RX6 54 yX6_quarter]
def wsX6_both_r2 : List Cond := [Cond.static yX6_quarter, Cond.code yX6_quarter cX6_quarter 1 (some .int), Cond.methodLink RX6 78 yX6_valueOf, Cond.static yX6_valueOf, Cond.code yX6_valueOf cX6_valueOf 3 (some .int), Cond.methodLink RX6 64 yX6_fit, Cond.static yX6_fit, Cond.code yX6_fit cX6_fit 3 (some .boolean), Cond.methodLink RX6 85 yX6_block, Cond.static yX6_block, Cond.code yX6_block cX6_block 3 (some .boolean), Cond.methodLink RX6 68 yX6_prefers, Cond.static yX6_prefers, Cond.code yX6_prefers cX6_prefers 3 (some .boolean), Cond.methodLink RX6 60 yX6_isFree, Cond.static yX6_isFree, Cond.code yX6_isFree cX6_isFree 2 (some .boolean)]
def wsX6_both : List Cond := .code yX6_both cX6_both 4 (some .int) :: ((wsX6_both_r1 ++ wsX6_both_r2) ++ wsX60)
def wsX6_note : List Cond := .code yX6_note cX6_note 2 none :: ([.fieldLink RX6 135 "TandemExchangeModel" "acts" "I", .fieldLink RX6 22 "TandemExchangeModel" "diary" "[I", .fieldLink RX6 16 "TandemExchangeModel" "now" "[I", .methodLink RX6 131 yX6_copyPage, .static yX6_copyPage, .initialized RX6, .code yX6_copyPage cX6_copyPage 5 none] ++ wsX60)
def wsX6_join_r1 : List Cond := [Cond.constantLong RX6 155 (3), Cond.constantLong RX6 157 (9999), Cond.constantLong RX6 159 (-99), Cond.constantLong RX6 161 (99), Cond.fieldLink RX6 16 "TandemExchangeModel" "now" "[I", Cond.methodLink RX6 42 yX6_in, Cond.static yX6_in, Cond.initialized RX6, Cond.code yX6_in cX6_in 6 (some .boolean), Cond.methodLink RX6 111 yX6_refused, Cond.instanceMethod yX6_refused, Cond.selects RX6 yX6_refused yX6_refused, Cond.code yX6_refused cX6_refused 2 (some .boolean), Cond.fieldLink RX6 38 "TandemExchangeModel" "refusal" "I", Cond.methodLink RX6 163 yX6_note, Cond.instanceMethod yX6_note, Cond.selects RX6 yX6_note yX6_note, Cond.code yX6_note cX6_note 2 none, Cond.fieldLink RX6 135 "TandemExchangeModel" "acts" "I", Cond.fieldLink RX6 22 "TandemExchangeModel" "diary" "[I", Cond.methodLink RX6 131 yX6_copyPage, Cond.static yX6_copyPage, Cond.code yX6_copyPage cX6_copyPage 5 none, Cond.methodLink RX6 46 yX6_at]
def wsX6_join_r2 : List Cond := [Cond.static yX6_at, Cond.code yX6_at cX6_at 1 (some .int), Cond.methodLink RX6 71 yX6_free, Cond.static yX6_free, Cond.code yX6_free cX6_free 2 none]
def wsX6_join : List Cond := .code yX6_join cX6_join 8 (some .int) :: ((wsX6_join_r1 ++ wsX6_join_r2) ++ wsX60)
def wsX6_leave_r1 : List Cond := [Cond.fieldLink RX6 16 "TandemExchangeModel" "now" "[I", Cond.methodLink RX6 147 yX6_isMember, Cond.static yX6_isMember, Cond.initialized RX6, Cond.code yX6_isMember cX6_isMember 2 (some .boolean), Cond.methodLink RX6 42 yX6_in, Cond.static yX6_in, Cond.code yX6_in cX6_in 6 (some .boolean), Cond.methodLink RX6 111 yX6_refused, Cond.instanceMethod yX6_refused, Cond.selects RX6 yX6_refused yX6_refused, Cond.code yX6_refused cX6_refused 2 (some .boolean), Cond.fieldLink RX6 38 "TandemExchangeModel" "refusal" "I", Cond.methodLink RX6 163 yX6_note, Cond.instanceMethod yX6_note, Cond.selects RX6 yX6_note yX6_note, Cond.code yX6_note cX6_note 2 none, Cond.fieldLink RX6 135 "TandemExchangeModel" "acts" "I", Cond.fieldLink RX6 22 "TandemExchangeModel" "diary" "[I", Cond.methodLink RX6 131 yX6_copyPage, Cond.static yX6_copyPage, Cond.code yX6_copyPage cX6_copyPage 5 none, Cond.methodLink RX6 46 yX6_at, Cond.static yX6_at]
def wsX6_leave_r2 : List Cond := [Cond.code yX6_at cX6_at 1 (some .int), Cond.methodLink RX6 75 yX6_partOn, Cond.static yX6_partOn, Cond.code yX6_partOn cX6_partOn 3 none, Cond.methodLink RX6 71 yX6_free, Cond.static yX6_free, Cond.code yX6_free cX6_free 2 none]
def wsX6_leave : List Cond := .code yX6_leave cX6_leave 5 (some .int) :: ((wsX6_leave_r1 ++ wsX6_leave_r2) ++ wsX60)
def wsX6_isTongue : List Cond := .code yX6_isTongue cX6_isTongue 1 (some .boolean) :: ([.constantLong RX6 155 (3), .methodLink RX6 42 yX6_in, .static yX6_in, .initialized RX6, .code yX6_in cX6_in 6 (some .boolean)])
def wsX6_want_r1 : List Cond := [Cond.fieldLink RX6 16 "TandemExchangeModel" "now" "[I", Cond.methodLink RX6 147 yX6_isMember, Cond.static yX6_isMember, Cond.initialized RX6, Cond.code yX6_isMember cX6_isMember 2 (some .boolean), Cond.methodLink RX6 42 yX6_in, Cond.static yX6_in, Cond.code yX6_in cX6_in 6 (some .boolean), Cond.methodLink RX6 166 yX6_isTongue, Cond.static yX6_isTongue, Cond.code yX6_isTongue cX6_isTongue 1 (some .boolean), Cond.constantLong RX6 155 (3), Cond.methodLink RX6 111 yX6_refused, Cond.instanceMethod yX6_refused, Cond.selects RX6 yX6_refused yX6_refused, Cond.code yX6_refused cX6_refused 2 (some .boolean), Cond.fieldLink RX6 38 "TandemExchangeModel" "refusal" "I", Cond.methodLink RX6 163 yX6_note, Cond.instanceMethod yX6_note, Cond.selects RX6 yX6_note yX6_note, Cond.code yX6_note cX6_note 2 none, Cond.fieldLink RX6 135 "TandemExchangeModel" "acts" "I", Cond.fieldLink RX6 22 "TandemExchangeModel" "diary" "[I", Cond.methodLink RX6 131 yX6_copyPage]
def wsX6_want_r2 : List Cond := [Cond.static yX6_copyPage, Cond.code yX6_copyPage cX6_copyPage 5 none, Cond.methodLink RX6 46 yX6_at, Cond.static yX6_at, Cond.code yX6_at cX6_at 1 (some .int), Cond.methodLink RX6 169 yX6_mend, Cond.static yX6_mend, Cond.code yX6_mend cX6_mend 3 none, Cond.methodLink RX6 64 yX6_fit, Cond.static yX6_fit, Cond.code yX6_fit cX6_fit 3 (some .boolean), Cond.methodLink RX6 50 yX6_better, Cond.static yX6_better, Cond.code yX6_better cX6_better 4 (some .int), Cond.methodLink RX6 75 yX6_partOn, Cond.static yX6_partOn, Cond.code yX6_partOn cX6_partOn 3 none, Cond.methodLink RX6 71 yX6_free, Cond.static yX6_free, Cond.code yX6_free cX6_free 2 none]
def wsX6_want : List Cond := .code yX6_want cX6_want 4 (some .int) :: ((wsX6_want_r1 ++ wsX6_want_r2) ++ wsX60)
def wsX6_testOn : List Cond := .code yX6_testOn cX6_testOn 5 (some .int) :: ([.methodLink RX6 46 yX6_at, .static yX6_at, .initialized RX6, .code yX6_at cX6_at 1 (some .int), .methodLink RX6 169 yX6_mend, .static yX6_mend, .code yX6_mend cX6_mend 3 none, .methodLink RX6 64 yX6_fit, .static yX6_fit, .code yX6_fit cX6_fit 3 (some .boolean), .methodLink RX6 50 yX6_better, .static yX6_better, .code yX6_better cX6_better 4 (some .int), .methodLink RX6 75 yX6_partOn, .static yX6_partOn, .code yX6_partOn cX6_partOn 3 none, .methodLink RX6 71 yX6_free, .static yX6_free, .code yX6_free cX6_free 2 none])
def wsX6_test_r1 : List Cond := [Cond.fieldLink RX6 16 "TandemExchangeModel" "now" "[I", Cond.constantLong RX6 161 (99), Cond.methodLink RX6 147 yX6_isMember, Cond.static yX6_isMember, Cond.initialized RX6, Cond.code yX6_isMember cX6_isMember 2 (some .boolean), Cond.methodLink RX6 42 yX6_in, Cond.static yX6_in, Cond.code yX6_in cX6_in 6 (some .boolean), Cond.methodLink RX6 166 yX6_isTongue, Cond.static yX6_isTongue, Cond.code yX6_isTongue cX6_isTongue 1 (some .boolean), Cond.constantLong RX6 155 (3), Cond.methodLink RX6 111 yX6_refused, Cond.instanceMethod yX6_refused, Cond.selects RX6 yX6_refused yX6_refused, Cond.code yX6_refused cX6_refused 2 (some .boolean), Cond.fieldLink RX6 38 "TandemExchangeModel" "refusal" "I", Cond.methodLink RX6 163 yX6_note, Cond.instanceMethod yX6_note, Cond.selects RX6 yX6_note yX6_note, Cond.code yX6_note cX6_note 2 none, Cond.fieldLink RX6 135 "TandemExchangeModel" "acts" "I", Cond.fieldLink RX6 22 "TandemExchangeModel" "diary" "[I"]
def wsX6_test_r2 : List Cond := [Cond.methodLink RX6 131 yX6_copyPage, Cond.static yX6_copyPage, Cond.code yX6_copyPage cX6_copyPage 5 none, Cond.methodLink RX6 172 yX6_testOn, Cond.static yX6_testOn, Cond.code yX6_testOn cX6_testOn 5 (some .int), Cond.methodLink RX6 46 yX6_at, Cond.static yX6_at, Cond.code yX6_at cX6_at 1 (some .int), Cond.methodLink RX6 169 yX6_mend, Cond.static yX6_mend, Cond.code yX6_mend cX6_mend 3 none, Cond.methodLink RX6 64 yX6_fit, Cond.static yX6_fit, Cond.code yX6_fit cX6_fit 3 (some .boolean), Cond.methodLink RX6 50 yX6_better, Cond.static yX6_better, Cond.code yX6_better cX6_better 4 (some .int), Cond.methodLink RX6 75 yX6_partOn, Cond.static yX6_partOn, Cond.code yX6_partOn cX6_partOn 3 none, Cond.methodLink RX6 71 yX6_free, Cond.static yX6_free, Cond.code yX6_free cX6_free 2 none]
def wsX6_test : List Cond := .code yX6_test cX6_test 4 (some .int) :: ((wsX6_test_r1 ++ wsX6_test_r2) ++ wsX60)
def wsX6_canPair : List Cond := .code yX6_canPair cX6_canPair 3 (some .boolean) :: ([.methodLink RX6 60 yX6_isFree, .static yX6_isFree, .initialized RX6, .code yX6_isFree cX6_isFree 2 (some .boolean), .methodLink RX6 46 yX6_at, .static yX6_at, .code yX6_at cX6_at 1 (some .int), .methodLink RX6 64 yX6_fit, .static yX6_fit, .code yX6_fit cX6_fit 3 (some .boolean), .methodLink RX6 50 yX6_better, .static yX6_better, .code yX6_better cX6_better 4 (some .int)])
def wsX6_pair_r1 : List Cond := [Cond.fieldLink RX6 16 "TandemExchangeModel" "now" "[I", Cond.methodLink RX6 147 yX6_isMember, Cond.static yX6_isMember, Cond.initialized RX6, Cond.code yX6_isMember cX6_isMember 2 (some .boolean), Cond.methodLink RX6 42 yX6_in, Cond.static yX6_in, Cond.code yX6_in cX6_in 6 (some .boolean), Cond.methodLink RX6 176 yX6_canPair, Cond.static yX6_canPair, Cond.code yX6_canPair cX6_canPair 3 (some .boolean), Cond.methodLink RX6 60 yX6_isFree, Cond.static yX6_isFree, Cond.code yX6_isFree cX6_isFree 2 (some .boolean), Cond.methodLink RX6 46 yX6_at, Cond.static yX6_at, Cond.code yX6_at cX6_at 1 (some .int), Cond.methodLink RX6 64 yX6_fit, Cond.static yX6_fit, Cond.code yX6_fit cX6_fit 3 (some .boolean), Cond.methodLink RX6 50 yX6_better, Cond.static yX6_better, Cond.code yX6_better cX6_better 4 (some .int), Cond.methodLink RX6 111 yX6_refused]
def wsX6_pair_r2 : List Cond := [Cond.instanceMethod yX6_refused, Cond.selects RX6 yX6_refused yX6_refused, Cond.code yX6_refused cX6_refused 2 (some .boolean), Cond.fieldLink RX6 38 "TandemExchangeModel" "refusal" "I", Cond.methodLink RX6 163 yX6_note, Cond.instanceMethod yX6_note, Cond.selects RX6 yX6_note yX6_note, Cond.code yX6_note cX6_note 2 none, Cond.fieldLink RX6 135 "TandemExchangeModel" "acts" "I", Cond.fieldLink RX6 22 "TandemExchangeModel" "diary" "[I", Cond.methodLink RX6 131 yX6_copyPage, Cond.static yX6_copyPage, Cond.code yX6_copyPage cX6_copyPage 5 none, Cond.methodLink RX6 81 yX6_pairOn, Cond.static yX6_pairOn, Cond.code yX6_pairOn cX6_pairOn 3 none, Cond.methodLink RX6 75 yX6_partOn, Cond.static yX6_partOn, Cond.code yX6_partOn cX6_partOn 3 none, Cond.methodLink RX6 71 yX6_free, Cond.static yX6_free, Cond.code yX6_free cX6_free 2 none, Cond.methodLink RX6 78 yX6_valueOf, Cond.static yX6_valueOf]
def wsX6_pair_r3 : List Cond := [Cond.code yX6_valueOf cX6_valueOf 3 (some .int), Cond.methodLink RX6 57 yX6_score, Cond.static yX6_score, Cond.code yX6_score cX6_score 3 (some .int), Cond.methodLink RX6 54 yX6_quarter, Cond.static yX6_quarter, Cond.code yX6_quarter cX6_quarter 1 (some .int)]
def wsX6_pair : List Cond := .code yX6_pair cX6_pair 3 (some .int) :: ((wsX6_pair_r1 ++ (wsX6_pair_r2 ++ wsX6_pair_r3)) ++ wsX60)
def wsX6_part_r1 : List Cond := [Cond.fieldLink RX6 16 "TandemExchangeModel" "now" "[I", Cond.methodLink RX6 147 yX6_isMember, Cond.static yX6_isMember, Cond.initialized RX6, Cond.code yX6_isMember cX6_isMember 2 (some .boolean), Cond.methodLink RX6 42 yX6_in, Cond.static yX6_in, Cond.code yX6_in cX6_in 6 (some .boolean), Cond.methodLink RX6 60 yX6_isFree, Cond.static yX6_isFree, Cond.code yX6_isFree cX6_isFree 2 (some .boolean), Cond.methodLink RX6 46 yX6_at, Cond.static yX6_at, Cond.code yX6_at cX6_at 1 (some .int), Cond.methodLink RX6 111 yX6_refused, Cond.instanceMethod yX6_refused, Cond.selects RX6 yX6_refused yX6_refused, Cond.code yX6_refused cX6_refused 2 (some .boolean), Cond.fieldLink RX6 38 "TandemExchangeModel" "refusal" "I", Cond.methodLink RX6 163 yX6_note, Cond.instanceMethod yX6_note, Cond.selects RX6 yX6_note yX6_note, Cond.code yX6_note cX6_note 2 none, Cond.fieldLink RX6 135 "TandemExchangeModel" "acts" "I"]
def wsX6_part_r2 : List Cond := [Cond.fieldLink RX6 22 "TandemExchangeModel" "diary" "[I", Cond.methodLink RX6 131 yX6_copyPage, Cond.static yX6_copyPage, Cond.code yX6_copyPage cX6_copyPage 5 none, Cond.methodLink RX6 75 yX6_partOn, Cond.static yX6_partOn, Cond.code yX6_partOn cX6_partOn 3 none, Cond.methodLink RX6 71 yX6_free, Cond.static yX6_free, Cond.code yX6_free cX6_free 2 none]
def wsX6_part : List Cond := .code yX6_part cX6_part 3 (some .int) :: ((wsX6_part_r1 ++ wsX6_part_r2) ++ wsX60)
def wsX6_match_r1 : List Cond := [Cond.fieldLink RX6 38 "TandemExchangeModel" "refusal" "I", Cond.fieldLink RX6 16 "TandemExchangeModel" "now" "[I", Cond.methodLink RX6 163 yX6_note, Cond.instanceMethod yX6_note, Cond.selects RX6 yX6_note yX6_note, Cond.initialized RX6, Cond.code yX6_note cX6_note 2 none, Cond.fieldLink RX6 135 "TandemExchangeModel" "acts" "I", Cond.fieldLink RX6 22 "TandemExchangeModel" "diary" "[I", Cond.methodLink RX6 131 yX6_copyPage, Cond.static yX6_copyPage, Cond.code yX6_copyPage cX6_copyPage 5 none, Cond.methodLink RX6 179 yX6_matchOn, Cond.static yX6_matchOn, Cond.code yX6_matchOn cX6_matchOn 8 (some .int), Cond.methodLink RX6 60 yX6_isFree, Cond.static yX6_isFree, Cond.code yX6_isFree cX6_isFree 2 (some .boolean), Cond.methodLink RX6 46 yX6_at, Cond.static yX6_at, Cond.code yX6_at cX6_at 1 (some .int), Cond.methodLink RX6 64 yX6_fit, Cond.static yX6_fit, Cond.code yX6_fit cX6_fit 3 (some .boolean)]
def wsX6_match_r2 : List Cond := [Cond.methodLink RX6 50 yX6_better, Cond.static yX6_better, Cond.code yX6_better cX6_better 4 (some .int), Cond.methodLink RX6 78 yX6_valueOf, Cond.static yX6_valueOf, Cond.code yX6_valueOf cX6_valueOf 3 (some .int), Cond.methodLink RX6 57 yX6_score, Cond.static yX6_score, Cond.code yX6_score cX6_score 3 (some .int), Cond.methodLink RX6 54 yX6_quarter, Cond.static yX6_quarter, Cond.code yX6_quarter cX6_quarter 1 (some .int), Cond.methodLink RX6 81 yX6_pairOn, Cond.static yX6_pairOn, Cond.code yX6_pairOn cX6_pairOn 3 none, Cond.methodLink RX6 75 yX6_partOn, Cond.static yX6_partOn, Cond.code yX6_partOn cX6_partOn 3 none, Cond.methodLink RX6 71 yX6_free, Cond.static yX6_free, Cond.code yX6_free cX6_free 2 none]
def wsX6_match : List Cond := .code yX6_match cX6_match 1 (some .int) :: ((wsX6_match_r1 ++ wsX6_match_r2) ++ wsX60)
def wsX6_settle_r1 : List Cond := [Cond.constantLong RX6 182 (50), Cond.fieldLink RX6 16 "TandemExchangeModel" "now" "[I", Cond.methodLink RX6 42 yX6_in, Cond.static yX6_in, Cond.initialized RX6, Cond.code yX6_in cX6_in 6 (some .boolean), Cond.methodLink RX6 111 yX6_refused, Cond.instanceMethod yX6_refused, Cond.selects RX6 yX6_refused yX6_refused, Cond.code yX6_refused cX6_refused 2 (some .boolean), Cond.fieldLink RX6 38 "TandemExchangeModel" "refusal" "I", Cond.methodLink RX6 163 yX6_note, Cond.instanceMethod yX6_note, Cond.selects RX6 yX6_note yX6_note, Cond.code yX6_note cX6_note 2 none, Cond.fieldLink RX6 135 "TandemExchangeModel" "acts" "I", Cond.fieldLink RX6 22 "TandemExchangeModel" "diary" "[I", Cond.methodLink RX6 131 yX6_copyPage, Cond.static yX6_copyPage, Cond.code yX6_copyPage cX6_copyPage 5 none, Cond.methodLink RX6 184 yX6_settleOn, Cond.static yX6_settleOn, Cond.code yX6_settleOn cX6_settleOn 4 (some .int), Cond.methodLink RX6 88 yX6_blockAt]
def wsX6_settle_r2 : List Cond := [Cond.static yX6_blockAt, Cond.code yX6_blockAt cX6_blockAt 5 (some .int), Cond.methodLink RX6 85 yX6_block, Cond.static yX6_block, Cond.code yX6_block cX6_block 3 (some .boolean), Cond.methodLink RX6 64 yX6_fit, Cond.static yX6_fit, Cond.code yX6_fit cX6_fit 3 (some .boolean), Cond.methodLink RX6 50 yX6_better, Cond.static yX6_better, Cond.code yX6_better cX6_better 4 (some .int), Cond.methodLink RX6 46 yX6_at, Cond.static yX6_at, Cond.code yX6_at cX6_at 1 (some .int), Cond.methodLink RX6 68 yX6_prefers, Cond.static yX6_prefers, Cond.code yX6_prefers cX6_prefers 3 (some .boolean), Cond.methodLink RX6 60 yX6_isFree, Cond.static yX6_isFree, Cond.code yX6_isFree cX6_isFree 2 (some .boolean), Cond.methodLink RX6 57 yX6_score, Cond.static yX6_score, Cond.code yX6_score cX6_score 3 (some .int), Cond.methodLink RX6 54 yX6_quarter]
def wsX6_settle_r3 : List Cond := [Cond.static yX6_quarter, Cond.code yX6_quarter cX6_quarter 1 (some .int), Cond.methodLink RX6 81 yX6_pairOn, Cond.static yX6_pairOn, Cond.code yX6_pairOn cX6_pairOn 3 none, Cond.methodLink RX6 75 yX6_partOn, Cond.static yX6_partOn, Cond.code yX6_partOn cX6_partOn 3 none, Cond.methodLink RX6 71 yX6_free, Cond.static yX6_free, Cond.code yX6_free cX6_free 2 none]
def wsX6_settle : List Cond := .code yX6_settle cX6_settle 2 (some .int) :: ((wsX6_settle_r1 ++ (wsX6_settle_r2 ++ wsX6_settle_r3)) ++ wsX60)
def wsX6_isAbsent : List Cond := .code yX6_isAbsent cX6_isAbsent 1 (some .boolean) :: ([.constantLong RX6 187 (511), .methodLink RX6 42 yX6_in, .static yX6_in, .initialized RX6, .code yX6_in cX6_in 6 (some .boolean)])
def wsX6_week_r1 : List Cond := [Cond.fieldLink RX6 16 "TandemExchangeModel" "now" "[I", Cond.methodLink RX6 189 yX6_isAbsent, Cond.static yX6_isAbsent, Cond.initialized RX6, Cond.code yX6_isAbsent cX6_isAbsent 1 (some .boolean), Cond.constantLong RX6 187 (511), Cond.methodLink RX6 42 yX6_in, Cond.static yX6_in, Cond.code yX6_in cX6_in 6 (some .boolean), Cond.methodLink RX6 111 yX6_refused, Cond.instanceMethod yX6_refused, Cond.selects RX6 yX6_refused yX6_refused, Cond.code yX6_refused cX6_refused 2 (some .boolean), Cond.fieldLink RX6 38 "TandemExchangeModel" "refusal" "I", Cond.methodLink RX6 163 yX6_note, Cond.instanceMethod yX6_note, Cond.selects RX6 yX6_note yX6_note, Cond.code yX6_note cX6_note 2 none, Cond.fieldLink RX6 135 "TandemExchangeModel" "acts" "I", Cond.fieldLink RX6 22 "TandemExchangeModel" "diary" "[I", Cond.methodLink RX6 131 yX6_copyPage, Cond.static yX6_copyPage, Cond.code yX6_copyPage cX6_copyPage 5 none, Cond.methodLink RX6 192 yX6_weekOn]
def wsX6_week_r2 : List Cond := [Cond.static yX6_weekOn, Cond.code yX6_weekOn cX6_weekOn 4 none, Cond.methodLink RX6 46 yX6_at, Cond.static yX6_at, Cond.code yX6_at cX6_at 1 (some .int), Cond.methodLink RX6 102 yX6_meet, Cond.static yX6_meet, Cond.code yX6_meet cX6_meet 8 none, Cond.methodLink RX6 95 yX6_miss, Cond.static yX6_miss, Cond.code yX6_miss cX6_miss 3 none, Cond.methodLink RX6 92 yX6_credit, Cond.static yX6_credit, Cond.code yX6_credit cX6_credit 4 none, Cond.methodLink RX6 50 yX6_better, Cond.static yX6_better, Cond.code yX6_better cX6_better 4 (some .int), Cond.methodLink RX6 99 yX6_learn, Cond.static yX6_learn, Cond.code yX6_learn cX6_learn 5 none, Cond.methodLink RX6 64 yX6_fit, Cond.static yX6_fit, Cond.code yX6_fit cX6_fit 3 (some .boolean), Cond.methodLink RX6 75 yX6_partOn]
def wsX6_week_r3 : List Cond := [Cond.static yX6_partOn, Cond.code yX6_partOn cX6_partOn 3 none, Cond.methodLink RX6 71 yX6_free, Cond.static yX6_free, Cond.code yX6_free cX6_free 2 none, Cond.methodLink RX6 140 yX6_over, Cond.static yX6_over, Cond.code yX6_over cX6_over 6 (some .int), Cond.methodLink RX6 78 yX6_valueOf, Cond.static yX6_valueOf, Cond.code yX6_valueOf cX6_valueOf 3 (some .int), Cond.methodLink RX6 57 yX6_score, Cond.static yX6_score, Cond.code yX6_score cX6_score 3 (some .int), Cond.methodLink RX6 54 yX6_quarter, Cond.static yX6_quarter, Cond.code yX6_quarter cX6_quarter 1 (some .int), Cond.methodLink RX6 85 yX6_block, Cond.static yX6_block, Cond.code yX6_block cX6_block 3 (some .boolean), Cond.methodLink RX6 68 yX6_prefers, Cond.static yX6_prefers, Cond.code yX6_prefers cX6_prefers 3 (some .boolean), Cond.methodLink RX6 60 yX6_isFree]
def wsX6_week_r4 : List Cond := [Cond.static yX6_isFree, Cond.code yX6_isFree cX6_isFree 2 (some .boolean)]
def wsX6_week : List Cond := .code yX6_week cX6_week 2 (some .int) :: ((wsX6_week_r1 ++ (wsX6_week_r2 ++ (wsX6_week_r3 ++ wsX6_week_r4))) ++ wsX60)
def wsX6_undo : List Cond := .code yX6_undo cX6_undo 1 (some .int) :: ([.fieldLink RX6 135 "TandemExchangeModel" "acts" "I", .fieldLink RX6 22 "TandemExchangeModel" "diary" "[I", .fieldLink RX6 16 "TandemExchangeModel" "now" "[I", .methodLink RX6 111 yX6_refused, .instanceMethod yX6_refused, .selects RX6 yX6_refused yX6_refused, .initialized RX6, .code yX6_refused cX6_refused 2 (some .boolean), .fieldLink RX6 38 "TandemExchangeModel" "refusal" "I", .methodLink RX6 131 yX6_copyPage, .static yX6_copyPage, .code yX6_copyPage cX6_copyPage 5 none] ++ wsX60)
def wsX6_blocking_r1 : List Cond := [Cond.fieldLink RX6 16 "TandemExchangeModel" "now" "[I", Cond.methodLink RX6 111 yX6_refused, Cond.instanceMethod yX6_refused, Cond.selects RX6 yX6_refused yX6_refused, Cond.initialized RX6, Cond.code yX6_refused cX6_refused 2 (some .boolean), Cond.fieldLink RX6 38 "TandemExchangeModel" "refusal" "I", Cond.methodLink RX6 88 yX6_blockAt, Cond.static yX6_blockAt, Cond.code yX6_blockAt cX6_blockAt 5 (some .int), Cond.methodLink RX6 85 yX6_block, Cond.static yX6_block, Cond.code yX6_block cX6_block 3 (some .boolean), Cond.methodLink RX6 64 yX6_fit, Cond.static yX6_fit, Cond.code yX6_fit cX6_fit 3 (some .boolean), Cond.methodLink RX6 50 yX6_better, Cond.static yX6_better, Cond.code yX6_better cX6_better 4 (some .int), Cond.methodLink RX6 46 yX6_at, Cond.static yX6_at, Cond.code yX6_at cX6_at 1 (some .int), Cond.methodLink RX6 68 yX6_prefers, Cond.static yX6_prefers]
def wsX6_blocking_r2 : List Cond := [Cond.code yX6_prefers cX6_prefers 3 (some .boolean), Cond.methodLink RX6 60 yX6_isFree, Cond.static yX6_isFree, Cond.code yX6_isFree cX6_isFree 2 (some .boolean), Cond.methodLink RX6 57 yX6_score, Cond.static yX6_score, Cond.code yX6_score cX6_score 3 (some .int), Cond.methodLink RX6 54 yX6_quarter, Cond.static yX6_quarter, Cond.code yX6_quarter cX6_quarter 1 (some .int)]
def wsX6_blocking : List Cond := .code yX6_blocking cX6_blocking 4 (some .int) :: ((wsX6_blocking_r1 ++ wsX6_blocking_r2) ++ wsX60)
def wsX6_bestPartner_r1 : List Cond := [Cond.fieldLink RX6 16 "TandemExchangeModel" "now" "[I", Cond.methodLink RX6 147 yX6_isMember, Cond.static yX6_isMember, Cond.initialized RX6, Cond.code yX6_isMember cX6_isMember 2 (some .boolean), Cond.methodLink RX6 42 yX6_in, Cond.static yX6_in, Cond.code yX6_in cX6_in 6 (some .boolean), Cond.methodLink RX6 111 yX6_refused, Cond.instanceMethod yX6_refused, Cond.selects RX6 yX6_refused yX6_refused, Cond.code yX6_refused cX6_refused 2 (some .boolean), Cond.fieldLink RX6 38 "TandemExchangeModel" "refusal" "I", Cond.methodLink RX6 64 yX6_fit, Cond.static yX6_fit, Cond.code yX6_fit cX6_fit 3 (some .boolean), Cond.methodLink RX6 50 yX6_better, Cond.static yX6_better, Cond.code yX6_better cX6_better 4 (some .int), Cond.methodLink RX6 46 yX6_at, Cond.static yX6_at, Cond.code yX6_at cX6_at 1 (some .int), Cond.methodLink RX6 60 yX6_isFree, Cond.static yX6_isFree]
def wsX6_bestPartner_r2 : List Cond := [Cond.code yX6_isFree cX6_isFree 2 (some .boolean), Cond.methodLink RX6 57 yX6_score, Cond.static yX6_score, Cond.code yX6_score cX6_score 3 (some .int), Cond.methodLink RX6 54 yX6_quarter, Cond.static yX6_quarter, Cond.code yX6_quarter cX6_quarter 1 (some .int)]
def wsX6_bestPartner : List Cond := .code yX6_bestPartner cX6_bestPartner 6 (some .int) :: ((wsX6_bestPartner_r1 ++ wsX6_bestPartner_r2) ++ wsX60)
def wsX6_best_r1 : List Cond := [Cond.fieldLink RX6 16 "TandemExchangeModel" "now" "[I", Cond.fieldLink RX6 32 "TandemExchangeModel" "pairs" "[I", Cond.fieldLink RX6 35 "TandemExchangeModel" "sums" "[I", Cond.methodLink RX6 42 yX6_in, Cond.static yX6_in, Cond.initialized RX6, Cond.code yX6_in cX6_in 6 (some .boolean), Cond.methodLink RX6 111 yX6_refused, Cond.instanceMethod yX6_refused, Cond.selects RX6 yX6_refused yX6_refused, Cond.code yX6_refused cX6_refused 2 (some .boolean), Cond.fieldLink RX6 38 "TandemExchangeModel" "refusal" "I", Cond.methodLink RX6 195 yX6_laySets, Cond.instanceMethod yX6_laySets, Cond.selects RX6 yX6_laySets yX6_laySets, Cond.code yX6_laySets cX6_laySets 10 none, Cond.methodLink RX6 64 yX6_fit, Cond.static yX6_fit, Cond.code yX6_fit cX6_fit 3 (some .boolean), Cond.methodLink RX6 50 yX6_better, Cond.static yX6_better, Cond.code yX6_better cX6_better 4 (some .int), Cond.methodLink RX6 46 yX6_at, Cond.static yX6_at]
def wsX6_best_r2 : List Cond := [Cond.code yX6_at cX6_at 1 (some .int), Cond.methodLink RX6 78 yX6_valueOf, Cond.static yX6_valueOf, Cond.code yX6_valueOf cX6_valueOf 3 (some .int), Cond.methodLink RX6 57 yX6_score, Cond.static yX6_score, Cond.code yX6_score cX6_score 3 (some .int), Cond.methodLink RX6 54 yX6_quarter, Cond.static yX6_quarter, Cond.code yX6_quarter cX6_quarter 1 (some .int)]
def wsX6_best : List Cond := .code yX6_best cX6_best 3 (some .int) :: ((wsX6_best_r1 ++ wsX6_best_r2) ++ wsX60)
def wsX6_missedMost_r1 : List Cond := [Cond.fieldLink RX6 38 "TandemExchangeModel" "refusal" "I", Cond.fieldLink RX6 16 "TandemExchangeModel" "now" "[I", Cond.fieldLink RX6 32 "TandemExchangeModel" "pairs" "[I", Cond.fieldLink RX6 35 "TandemExchangeModel" "sums" "[I", Cond.methodLink RX6 195 yX6_laySets, Cond.instanceMethod yX6_laySets, Cond.selects RX6 yX6_laySets yX6_laySets, Cond.initialized RX6, Cond.code yX6_laySets cX6_laySets 10 none, Cond.methodLink RX6 64 yX6_fit, Cond.static yX6_fit, Cond.code yX6_fit cX6_fit 3 (some .boolean), Cond.methodLink RX6 50 yX6_better, Cond.static yX6_better, Cond.code yX6_better cX6_better 4 (some .int), Cond.methodLink RX6 46 yX6_at, Cond.static yX6_at, Cond.code yX6_at cX6_at 1 (some .int), Cond.methodLink RX6 78 yX6_valueOf, Cond.static yX6_valueOf, Cond.code yX6_valueOf cX6_valueOf 3 (some .int), Cond.methodLink RX6 57 yX6_score, Cond.static yX6_score, Cond.code yX6_score cX6_score 3 (some .int)]
def wsX6_missedMost_r2 : List Cond := [Cond.methodLink RX6 54 yX6_quarter, Cond.static yX6_quarter, Cond.code yX6_quarter cX6_quarter 1 (some .int)]
def wsX6_missedMost : List Cond := .code yX6_missedMost cX6_missedMost 7 (some .int) :: ((wsX6_missedMost_r1 ++ wsX6_missedMost_r2) ++ wsX60)
def wsX6_ahead_r1 : List Cond := [Cond.fieldLink RX6 16 "TandemExchangeModel" "now" "[I", Cond.constantLong RX6 199 (60), Cond.constantLong RX6 150 (10), Cond.fieldLink RX6 19 "TandemExchangeModel" "trial" "[I", Cond.methodLink RX6 147 yX6_isMember, Cond.static yX6_isMember, Cond.initialized RX6, Cond.code yX6_isMember cX6_isMember 2 (some .boolean), Cond.methodLink RX6 42 yX6_in, Cond.static yX6_in, Cond.code yX6_in cX6_in 6 (some .boolean), Cond.methodLink RX6 189 yX6_isAbsent, Cond.static yX6_isAbsent, Cond.code yX6_isAbsent cX6_isAbsent 1 (some .boolean), Cond.constantLong RX6 187 (511), Cond.methodLink RX6 111 yX6_refused, Cond.instanceMethod yX6_refused, Cond.selects RX6 yX6_refused yX6_refused, Cond.code yX6_refused cX6_refused 2 (some .boolean), Cond.fieldLink RX6 38 "TandemExchangeModel" "refusal" "I", Cond.methodLink RX6 131 yX6_copyPage, Cond.static yX6_copyPage, Cond.code yX6_copyPage cX6_copyPage 5 none, Cond.methodLink RX6 192 yX6_weekOn]
def wsX6_ahead_r2 : List Cond := [Cond.static yX6_weekOn, Cond.code yX6_weekOn cX6_weekOn 4 none, Cond.methodLink RX6 46 yX6_at, Cond.static yX6_at, Cond.code yX6_at cX6_at 1 (some .int), Cond.methodLink RX6 102 yX6_meet, Cond.static yX6_meet, Cond.code yX6_meet cX6_meet 8 none, Cond.methodLink RX6 95 yX6_miss, Cond.static yX6_miss, Cond.code yX6_miss cX6_miss 3 none, Cond.methodLink RX6 92 yX6_credit, Cond.static yX6_credit, Cond.code yX6_credit cX6_credit 4 none, Cond.methodLink RX6 50 yX6_better, Cond.static yX6_better, Cond.code yX6_better cX6_better 4 (some .int), Cond.methodLink RX6 99 yX6_learn, Cond.static yX6_learn, Cond.code yX6_learn cX6_learn 5 none, Cond.methodLink RX6 64 yX6_fit, Cond.static yX6_fit, Cond.code yX6_fit cX6_fit 3 (some .boolean), Cond.methodLink RX6 75 yX6_partOn]
def wsX6_ahead_r3 : List Cond := [Cond.static yX6_partOn, Cond.code yX6_partOn cX6_partOn 3 none, Cond.methodLink RX6 71 yX6_free, Cond.static yX6_free, Cond.code yX6_free cX6_free 2 none, Cond.methodLink RX6 152 yX6_detail, Cond.static yX6_detail, Cond.code yX6_detail cX6_detail 5 (some .int), Cond.methodLink RX6 60 yX6_isFree, Cond.static yX6_isFree, Cond.code yX6_isFree cX6_isFree 2 (some .boolean)]
def wsX6_ahead : List Cond := .code yX6_ahead cX6_ahead 6 (some .int) :: ((wsX6_ahead_r1 ++ (wsX6_ahead_r2 ++ wsX6_ahead_r3)) ++ wsX60)
def wsX6_levelAfter_r1 : List Cond := [Cond.fieldLink RX6 16 "TandemExchangeModel" "now" "[I", Cond.constantLong RX6 201 (9), Cond.fieldLink RX6 19 "TandemExchangeModel" "trial" "[I", Cond.methodLink RX6 147 yX6_isMember, Cond.static yX6_isMember, Cond.initialized RX6, Cond.code yX6_isMember cX6_isMember 2 (some .boolean), Cond.methodLink RX6 42 yX6_in, Cond.static yX6_in, Cond.code yX6_in cX6_in 6 (some .boolean), Cond.methodLink RX6 111 yX6_refused, Cond.instanceMethod yX6_refused, Cond.selects RX6 yX6_refused yX6_refused, Cond.code yX6_refused cX6_refused 2 (some .boolean), Cond.fieldLink RX6 38 "TandemExchangeModel" "refusal" "I", Cond.methodLink RX6 131 yX6_copyPage, Cond.static yX6_copyPage, Cond.code yX6_copyPage cX6_copyPage 5 none, Cond.methodLink RX6 46 yX6_at, Cond.static yX6_at, Cond.code yX6_at cX6_at 1 (some .int), Cond.methodLink RX6 179 yX6_matchOn, Cond.static yX6_matchOn, Cond.code yX6_matchOn cX6_matchOn 8 (some .int)]
def wsX6_levelAfter_r2 : List Cond := [Cond.methodLink RX6 60 yX6_isFree, Cond.static yX6_isFree, Cond.code yX6_isFree cX6_isFree 2 (some .boolean), Cond.methodLink RX6 64 yX6_fit, Cond.static yX6_fit, Cond.code yX6_fit cX6_fit 3 (some .boolean), Cond.methodLink RX6 50 yX6_better, Cond.static yX6_better, Cond.code yX6_better cX6_better 4 (some .int), Cond.methodLink RX6 78 yX6_valueOf, Cond.static yX6_valueOf, Cond.code yX6_valueOf cX6_valueOf 3 (some .int), Cond.methodLink RX6 57 yX6_score, Cond.static yX6_score, Cond.code yX6_score cX6_score 3 (some .int), Cond.methodLink RX6 54 yX6_quarter, Cond.static yX6_quarter, Cond.code yX6_quarter cX6_quarter 1 (some .int), Cond.methodLink RX6 81 yX6_pairOn, Cond.static yX6_pairOn, Cond.code yX6_pairOn cX6_pairOn 3 none, Cond.methodLink RX6 75 yX6_partOn, Cond.static yX6_partOn, Cond.code yX6_partOn cX6_partOn 3 none]
def wsX6_levelAfter_r3 : List Cond := [Cond.methodLink RX6 71 yX6_free, Cond.static yX6_free, Cond.code yX6_free cX6_free 2 none, Cond.methodLink RX6 192 yX6_weekOn, Cond.static yX6_weekOn, Cond.code yX6_weekOn cX6_weekOn 4 none, Cond.methodLink RX6 102 yX6_meet, Cond.static yX6_meet, Cond.code yX6_meet cX6_meet 8 none, Cond.methodLink RX6 95 yX6_miss, Cond.static yX6_miss, Cond.code yX6_miss cX6_miss 3 none, Cond.methodLink RX6 92 yX6_credit, Cond.static yX6_credit, Cond.code yX6_credit cX6_credit 4 none, Cond.methodLink RX6 99 yX6_learn, Cond.static yX6_learn, Cond.code yX6_learn cX6_learn 5 none]
def wsX6_levelAfter : List Cond := .code yX6_levelAfter cX6_levelAfter 4 (some .int) :: ((wsX6_levelAfter_r1 ++ (wsX6_levelAfter_r2 ++ wsX6_levelAfter_r3)) ++ wsX60)
def wsX6_partsAfter_r1 : List Cond := [Cond.fieldLink RX6 16 "TandemExchangeModel" "now" "[I", Cond.fieldLink RX6 19 "TandemExchangeModel" "trial" "[I", Cond.methodLink RX6 147 yX6_isMember, Cond.static yX6_isMember, Cond.initialized RX6, Cond.code yX6_isMember cX6_isMember 2 (some .boolean), Cond.methodLink RX6 42 yX6_in, Cond.static yX6_in, Cond.code yX6_in cX6_in 6 (some .boolean), Cond.methodLink RX6 189 yX6_isAbsent, Cond.static yX6_isAbsent, Cond.code yX6_isAbsent cX6_isAbsent 1 (some .boolean), Cond.constantLong RX6 187 (511), Cond.methodLink RX6 60 yX6_isFree, Cond.static yX6_isFree, Cond.code yX6_isFree cX6_isFree 2 (some .boolean), Cond.methodLink RX6 46 yX6_at, Cond.static yX6_at, Cond.code yX6_at cX6_at 1 (some .int), Cond.methodLink RX6 111 yX6_refused, Cond.instanceMethod yX6_refused, Cond.selects RX6 yX6_refused yX6_refused, Cond.code yX6_refused cX6_refused 2 (some .boolean), Cond.fieldLink RX6 38 "TandemExchangeModel" "refusal" "I"]
def wsX6_partsAfter_r2 : List Cond := [Cond.methodLink RX6 131 yX6_copyPage, Cond.static yX6_copyPage, Cond.code yX6_copyPage cX6_copyPage 5 none, Cond.methodLink RX6 192 yX6_weekOn, Cond.static yX6_weekOn, Cond.code yX6_weekOn cX6_weekOn 4 none, Cond.methodLink RX6 102 yX6_meet, Cond.static yX6_meet, Cond.code yX6_meet cX6_meet 8 none, Cond.methodLink RX6 95 yX6_miss, Cond.static yX6_miss, Cond.code yX6_miss cX6_miss 3 none, Cond.methodLink RX6 92 yX6_credit, Cond.static yX6_credit, Cond.code yX6_credit cX6_credit 4 none, Cond.methodLink RX6 50 yX6_better, Cond.static yX6_better, Cond.code yX6_better cX6_better 4 (some .int), Cond.methodLink RX6 99 yX6_learn, Cond.static yX6_learn, Cond.code yX6_learn cX6_learn 5 none, Cond.methodLink RX6 64 yX6_fit, Cond.static yX6_fit, Cond.code yX6_fit cX6_fit 3 (some .boolean)]
def wsX6_partsAfter_r3 : List Cond := [Cond.methodLink RX6 75 yX6_partOn, Cond.static yX6_partOn, Cond.code yX6_partOn cX6_partOn 3 none, Cond.methodLink RX6 71 yX6_free, Cond.static yX6_free, Cond.code yX6_free cX6_free 2 none]
def wsX6_partsAfter : List Cond := .code yX6_partsAfter cX6_partsAfter 4 (some .int) :: ((wsX6_partsAfter_r1 ++ (wsX6_partsAfter_r2 ++ wsX6_partsAfter_r3)) ++ wsX60)
def wsX6_does_r1 : List Cond := [Cond.fieldLink RX6 19 "TandemExchangeModel" "trial" "[I", Cond.constantLong RX6 182 (50), Cond.methodLink RX6 147 yX6_isMember, Cond.static yX6_isMember, Cond.initialized RX6, Cond.code yX6_isMember cX6_isMember 2 (some .boolean), Cond.methodLink RX6 42 yX6_in, Cond.static yX6_in, Cond.code yX6_in cX6_in 6 (some .boolean), Cond.methodLink RX6 176 yX6_canPair, Cond.static yX6_canPair, Cond.code yX6_canPair cX6_canPair 3 (some .boolean), Cond.methodLink RX6 60 yX6_isFree, Cond.static yX6_isFree, Cond.code yX6_isFree cX6_isFree 2 (some .boolean), Cond.methodLink RX6 46 yX6_at, Cond.static yX6_at, Cond.code yX6_at cX6_at 1 (some .int), Cond.methodLink RX6 64 yX6_fit, Cond.static yX6_fit, Cond.code yX6_fit cX6_fit 3 (some .boolean), Cond.methodLink RX6 50 yX6_better, Cond.static yX6_better, Cond.code yX6_better cX6_better 4 (some .int)]
def wsX6_does_r2 : List Cond := [Cond.methodLink RX6 81 yX6_pairOn, Cond.static yX6_pairOn, Cond.code yX6_pairOn cX6_pairOn 3 none, Cond.methodLink RX6 75 yX6_partOn, Cond.static yX6_partOn, Cond.code yX6_partOn cX6_partOn 3 none, Cond.methodLink RX6 71 yX6_free, Cond.static yX6_free, Cond.code yX6_free cX6_free 2 none, Cond.methodLink RX6 179 yX6_matchOn, Cond.static yX6_matchOn, Cond.code yX6_matchOn cX6_matchOn 8 (some .int), Cond.methodLink RX6 78 yX6_valueOf, Cond.static yX6_valueOf, Cond.code yX6_valueOf cX6_valueOf 3 (some .int), Cond.methodLink RX6 57 yX6_score, Cond.static yX6_score, Cond.code yX6_score cX6_score 3 (some .int), Cond.methodLink RX6 54 yX6_quarter, Cond.static yX6_quarter, Cond.code yX6_quarter cX6_quarter 1 (some .int), Cond.methodLink RX6 184 yX6_settleOn, Cond.static yX6_settleOn, Cond.code yX6_settleOn cX6_settleOn 4 (some .int)]
def wsX6_does_r3 : List Cond := [Cond.methodLink RX6 88 yX6_blockAt, Cond.static yX6_blockAt, Cond.code yX6_blockAt cX6_blockAt 5 (some .int), Cond.methodLink RX6 85 yX6_block, Cond.static yX6_block, Cond.code yX6_block cX6_block 3 (some .boolean), Cond.methodLink RX6 68 yX6_prefers, Cond.static yX6_prefers, Cond.code yX6_prefers cX6_prefers 3 (some .boolean), Cond.methodLink RX6 189 yX6_isAbsent, Cond.static yX6_isAbsent, Cond.code yX6_isAbsent cX6_isAbsent 1 (some .boolean), Cond.constantLong RX6 187 (511), Cond.methodLink RX6 192 yX6_weekOn, Cond.static yX6_weekOn, Cond.code yX6_weekOn cX6_weekOn 4 none, Cond.methodLink RX6 102 yX6_meet, Cond.static yX6_meet, Cond.code yX6_meet cX6_meet 8 none, Cond.methodLink RX6 95 yX6_miss, Cond.static yX6_miss, Cond.code yX6_miss cX6_miss 3 none, Cond.methodLink RX6 92 yX6_credit, Cond.static yX6_credit]
def wsX6_does_r4 : List Cond := [Cond.code yX6_credit cX6_credit 4 none, Cond.methodLink RX6 99 yX6_learn, Cond.static yX6_learn, Cond.code yX6_learn cX6_learn 5 none, Cond.methodLink RX6 166 yX6_isTongue, Cond.static yX6_isTongue, Cond.code yX6_isTongue cX6_isTongue 1 (some .boolean), Cond.constantLong RX6 155 (3), Cond.methodLink RX6 172 yX6_testOn, Cond.static yX6_testOn, Cond.code yX6_testOn cX6_testOn 5 (some .int), Cond.methodLink RX6 169 yX6_mend, Cond.static yX6_mend, Cond.code yX6_mend cX6_mend 3 none, Cond.methodLink RX6 140 yX6_over, Cond.static yX6_over, Cond.code yX6_over cX6_over 6 (some .int)]
def wsX6_does : List Cond := .code yX6_does cX6_does 8 (some .boolean) :: ((wsX6_does_r1 ++ (wsX6_does_r2 ++ (wsX6_does_r3 ++ wsX6_does_r4))) ++ wsX60)
def wsX6_runScript_r1 : List Cond := [Cond.constantLong RX6 203 (10000), Cond.constantLong RX6 205 (4), Cond.fieldLink RX6 16 "TandemExchangeModel" "now" "[I", Cond.fieldLink RX6 19 "TandemExchangeModel" "trial" "[I", Cond.methodLink RX6 42 yX6_in, Cond.static yX6_in, Cond.initialized RX6, Cond.code yX6_in cX6_in 6 (some .boolean), Cond.methodLink RX6 111 yX6_refused, Cond.instanceMethod yX6_refused, Cond.selects RX6 yX6_refused yX6_refused, Cond.code yX6_refused cX6_refused 2 (some .boolean), Cond.fieldLink RX6 38 "TandemExchangeModel" "refusal" "I", Cond.methodLink RX6 131 yX6_copyPage, Cond.static yX6_copyPage, Cond.code yX6_copyPage cX6_copyPage 5 none, Cond.methodLink RX6 207 yX6_does, Cond.instanceMethod yX6_does, Cond.selects RX6 yX6_does yX6_does, Cond.code yX6_does cX6_does 8 (some .boolean), Cond.constantLong RX6 182 (50), Cond.methodLink RX6 147 yX6_isMember, Cond.static yX6_isMember, Cond.code yX6_isMember cX6_isMember 2 (some .boolean)]
def wsX6_runScript_r2 : List Cond := [Cond.methodLink RX6 176 yX6_canPair, Cond.static yX6_canPair, Cond.code yX6_canPair cX6_canPair 3 (some .boolean), Cond.methodLink RX6 60 yX6_isFree, Cond.static yX6_isFree, Cond.code yX6_isFree cX6_isFree 2 (some .boolean), Cond.methodLink RX6 46 yX6_at, Cond.static yX6_at, Cond.code yX6_at cX6_at 1 (some .int), Cond.methodLink RX6 64 yX6_fit, Cond.static yX6_fit, Cond.code yX6_fit cX6_fit 3 (some .boolean), Cond.methodLink RX6 50 yX6_better, Cond.static yX6_better, Cond.code yX6_better cX6_better 4 (some .int), Cond.methodLink RX6 81 yX6_pairOn, Cond.static yX6_pairOn, Cond.code yX6_pairOn cX6_pairOn 3 none, Cond.methodLink RX6 75 yX6_partOn, Cond.static yX6_partOn, Cond.code yX6_partOn cX6_partOn 3 none, Cond.methodLink RX6 71 yX6_free, Cond.static yX6_free, Cond.code yX6_free cX6_free 2 none]
def wsX6_runScript_r3 : List Cond := [Cond.methodLink RX6 179 yX6_matchOn, Cond.static yX6_matchOn, Cond.code yX6_matchOn cX6_matchOn 8 (some .int), Cond.methodLink RX6 78 yX6_valueOf, Cond.static yX6_valueOf, Cond.code yX6_valueOf cX6_valueOf 3 (some .int), Cond.methodLink RX6 57 yX6_score, Cond.static yX6_score, Cond.code yX6_score cX6_score 3 (some .int), Cond.methodLink RX6 54 yX6_quarter, Cond.static yX6_quarter, Cond.code yX6_quarter cX6_quarter 1 (some .int), Cond.methodLink RX6 184 yX6_settleOn, Cond.static yX6_settleOn, Cond.code yX6_settleOn cX6_settleOn 4 (some .int), Cond.methodLink RX6 88 yX6_blockAt, Cond.static yX6_blockAt, Cond.code yX6_blockAt cX6_blockAt 5 (some .int), Cond.methodLink RX6 85 yX6_block, Cond.static yX6_block, Cond.code yX6_block cX6_block 3 (some .boolean), Cond.methodLink RX6 68 yX6_prefers, Cond.static yX6_prefers, Cond.code yX6_prefers cX6_prefers 3 (some .boolean)]
def wsX6_runScript_r4 : List Cond := [Cond.methodLink RX6 189 yX6_isAbsent, Cond.static yX6_isAbsent, Cond.code yX6_isAbsent cX6_isAbsent 1 (some .boolean), Cond.constantLong RX6 187 (511), Cond.methodLink RX6 192 yX6_weekOn, Cond.static yX6_weekOn, Cond.code yX6_weekOn cX6_weekOn 4 none, Cond.methodLink RX6 102 yX6_meet, Cond.static yX6_meet, Cond.code yX6_meet cX6_meet 8 none, Cond.methodLink RX6 95 yX6_miss, Cond.static yX6_miss, Cond.code yX6_miss cX6_miss 3 none, Cond.methodLink RX6 92 yX6_credit, Cond.static yX6_credit, Cond.code yX6_credit cX6_credit 4 none, Cond.methodLink RX6 99 yX6_learn, Cond.static yX6_learn, Cond.code yX6_learn cX6_learn 5 none, Cond.methodLink RX6 166 yX6_isTongue, Cond.static yX6_isTongue, Cond.code yX6_isTongue cX6_isTongue 1 (some .boolean), Cond.constantLong RX6 155 (3), Cond.methodLink RX6 172 yX6_testOn]
def wsX6_runScript_r5 : List Cond := [Cond.static yX6_testOn, Cond.code yX6_testOn cX6_testOn 5 (some .int), Cond.methodLink RX6 169 yX6_mend, Cond.static yX6_mend, Cond.code yX6_mend cX6_mend 3 none, Cond.methodLink RX6 140 yX6_over, Cond.static yX6_over, Cond.code yX6_over cX6_over 6 (some .int)]
def wsX6_runScript : List Cond := .code yX6_runScript cX6_runScript 10 (some .int) :: ((wsX6_runScript_r1 ++ (wsX6_runScript_r2 ++ (wsX6_runScript_r3 ++ (wsX6_runScript_r4 ++ wsX6_runScript_r5)))) ++ wsX60)
def wsX6_simulate_r1 : List Cond := [Cond.constantLong RX6 199 (60), Cond.fieldLink RX6 16 "TandemExchangeModel" "now" "[I", Cond.fieldLink RX6 19 "TandemExchangeModel" "trial" "[I", Cond.constantLong RX6 211 (6364136223846793005), Cond.constantLong RX6 213 (1442695040888963407), Cond.methodLink RX6 42 yX6_in, Cond.static yX6_in, Cond.initialized RX6, Cond.code yX6_in cX6_in 6 (some .boolean), Cond.methodLink RX6 111 yX6_refused, Cond.instanceMethod yX6_refused, Cond.selects RX6 yX6_refused yX6_refused, Cond.code yX6_refused cX6_refused 2 (some .boolean), Cond.fieldLink RX6 38 "TandemExchangeModel" "refusal" "I", Cond.methodLink RX6 131 yX6_copyPage, Cond.static yX6_copyPage, Cond.code yX6_copyPage cX6_copyPage 5 none, Cond.methodLink RX6 179 yX6_matchOn, Cond.static yX6_matchOn, Cond.code yX6_matchOn cX6_matchOn 8 (some .int), Cond.methodLink RX6 60 yX6_isFree, Cond.static yX6_isFree, Cond.code yX6_isFree cX6_isFree 2 (some .boolean), Cond.methodLink RX6 46 yX6_at]
def wsX6_simulate_r2 : List Cond := [Cond.static yX6_at, Cond.code yX6_at cX6_at 1 (some .int), Cond.methodLink RX6 64 yX6_fit, Cond.static yX6_fit, Cond.code yX6_fit cX6_fit 3 (some .boolean), Cond.methodLink RX6 50 yX6_better, Cond.static yX6_better, Cond.code yX6_better cX6_better 4 (some .int), Cond.methodLink RX6 78 yX6_valueOf, Cond.static yX6_valueOf, Cond.code yX6_valueOf cX6_valueOf 3 (some .int), Cond.methodLink RX6 57 yX6_score, Cond.static yX6_score, Cond.code yX6_score cX6_score 3 (some .int), Cond.methodLink RX6 54 yX6_quarter, Cond.static yX6_quarter, Cond.code yX6_quarter cX6_quarter 1 (some .int), Cond.methodLink RX6 81 yX6_pairOn, Cond.static yX6_pairOn, Cond.code yX6_pairOn cX6_pairOn 3 none, Cond.methodLink RX6 75 yX6_partOn, Cond.static yX6_partOn, Cond.code yX6_partOn cX6_partOn 3 none, Cond.methodLink RX6 71 yX6_free]
def wsX6_simulate_r3 : List Cond := [Cond.static yX6_free, Cond.code yX6_free cX6_free 2 none, Cond.methodLink RX6 192 yX6_weekOn, Cond.static yX6_weekOn, Cond.code yX6_weekOn cX6_weekOn 4 none, Cond.methodLink RX6 102 yX6_meet, Cond.static yX6_meet, Cond.code yX6_meet cX6_meet 8 none, Cond.methodLink RX6 95 yX6_miss, Cond.static yX6_miss, Cond.code yX6_miss cX6_miss 3 none, Cond.methodLink RX6 92 yX6_credit, Cond.static yX6_credit, Cond.code yX6_credit cX6_credit 4 none, Cond.methodLink RX6 99 yX6_learn, Cond.static yX6_learn, Cond.code yX6_learn cX6_learn 5 none, Cond.methodLink RX6 143 yX6_creditsOf, Cond.static yX6_creditsOf, Cond.code yX6_creditsOf cX6_creditsOf 3 (some .int)]
def wsX6_simulate : List Cond := .code yX6_simulate cX6_simulate 9 (some .int) :: ((wsX6_simulate_r1 ++ (wsX6_simulate_r2 ++ wsX6_simulate_r3)) ++ wsX60)
def wsX6_save : List Cond := .code yX6_save cX6_save 2 (some .int) :: ([.fieldLink RX6 28 "TandemExchangeModel" "isKept" "[Z", .fieldLink RX6 16 "TandemExchangeModel" "now" "[I", .fieldLink RX6 25 "TandemExchangeModel" "kept" "[I", .methodLink RX6 42 yX6_in, .static yX6_in, .initialized RX6, .code yX6_in cX6_in 6 (some .boolean), .methodLink RX6 111 yX6_refused, .instanceMethod yX6_refused, .selects RX6 yX6_refused yX6_refused, .code yX6_refused cX6_refused 2 (some .boolean), .fieldLink RX6 38 "TandemExchangeModel" "refusal" "I", .methodLink RX6 131 yX6_copyPage, .static yX6_copyPage, .code yX6_copyPage cX6_copyPage 5 none] ++ wsX60)
def wsX6_restore : List Cond := .code yX6_restore cX6_restore 2 (some .int) :: ([.fieldLink RX6 28 "TandemExchangeModel" "isKept" "[Z", .fieldLink RX6 25 "TandemExchangeModel" "kept" "[I", .fieldLink RX6 16 "TandemExchangeModel" "now" "[I", .fieldLink RX6 135 "TandemExchangeModel" "acts" "I", .methodLink RX6 42 yX6_in, .static yX6_in, .initialized RX6, .code yX6_in cX6_in 6 (some .boolean), .methodLink RX6 111 yX6_refused, .instanceMethod yX6_refused, .selects RX6 yX6_refused yX6_refused, .code yX6_refused cX6_refused 2 (some .boolean), .fieldLink RX6 38 "TandemExchangeModel" "refusal" "I", .methodLink RX6 131 yX6_copyPage, .static yX6_copyPage, .code yX6_copyPage cX6_copyPage 5 none] ++ wsX60)
def wsJ9_max_7cf53 : List Cond := .code yJ9_max_7cf53 cJ9_max_7cf53 2 (some .int) :: ([])
def wsJ9_min_7cf53 : List Cond := .code yJ9_min_7cf53 cJ9_min_7cf53 2 (some .int) :: ([])
def wsL_append : List Cond := .codeWith yL_append cL_append 4 (some .int) [(0, 9, 12, 13), (0, 9, 15, 15)] :: ([.classLink RL 13 "java/lang/IllegalArgumentException", .classLink RL 15 "java/lang/IllegalStateException", .methodLink RL 7 yX5_append, .instanceMethod yX5_append, .selects RX5 yX5_append yX5_append, .initialized RX5, .code yX5_append cX5_append 2 (some .int), .classLink RX5 56 "java/lang/IllegalStateException", .initialized "java/lang/IllegalStateException", .fieldLink RX5 12 "TandemExchange" "text" "LTandemExchange$Text;", .fieldLink RX5 52 "TandemExchange$Text" "length" "I", .methodLink RX5 48 yX5_requireRange, .static yX5_requireRange, .code yX5_requireRange cX5_requireRange 3 none, .classLink RX5 101 "java/lang/IllegalArgumentException", .initialized "java/lang/IllegalArgumentException", .methodLink RX5 63 yX4_add, .instanceMethod yX4_add, .selects RX4 yX4_add yX4_add, .initialized RX4, .code yX4_add cX4_add 2 none, .fieldLink RX4 15 "TandemExchange$Text" "length" "I", .fieldLink RX4 9 "TandemExchange$Text" "characters" "[C"] ++ wsX50 ++ wsX40 ++ (vx_atS RX5 60 "java/lang/IllegalStateException" ["java/lang/RuntimeException", "java/lang/Exception"]).filter goodWord ++ (vx_atS RX5 105 "java/lang/IllegalArgumentException" ["java/lang/RuntimeException", "java/lang/Exception"]).filter goodWord)
def wsL_load_r1 : List Cond := [Cond.classLink RL 15 "java/lang/IllegalStateException", Cond.methodLink RL 17 yX5_load, Cond.instanceMethod yX5_load, Cond.selects RX5 yX5_load yX5_load, Cond.initialized RX5, Cond.code yX5_load cX5_load 2 (some .int), Cond.classLink RX5 56 "java/lang/IllegalStateException", Cond.initialized "java/lang/IllegalStateException", Cond.fieldLink RX5 12 "TandemExchange" "text" "LTandemExchange$Text;", Cond.fieldLink RX5 19 "TandemExchange" "circle" "LTandemExchange$Circle;", Cond.fieldLink RX5 29 "TandemExchange" "history" "LTandemExchange$History;", Cond.fieldLink RX5 37 "TandemExchange" "saved" "[Z", Cond.fieldLink RX5 80 "TandemExchange$Circle" "size" "I", Cond.methodLink RX5 67 yX4_firstError, Cond.instanceMethod yX4_firstError, Cond.selects RX4 yX4_firstError yX4_firstError, Cond.initialized RX4, Cond.code yX4_firstError cX4_firstError 2 (some .int), Cond.fieldLink RX4 15 "TandemExchange$Text" "length" "I", Cond.fieldLink RX4 9 "TandemExchange$Text" "characters" "[C", Cond.methodLink RX4 19 yX4_allows, Cond.instanceMethod yX4_allows, Cond.selects RX4 yX4_allows yX4_allows, Cond.code yX4_allows cX4_allows 5 (some .boolean)]
def wsL_load_r2 : List Cond := [Cond.methodLink RX4 23 yX4_isWhole, Cond.instanceMethod yX4_isWhole, Cond.selects RX4 yX4_isWhole yX4_isWhole, Cond.code yX4_isWhole cX4_isWhole 1 (some .boolean), Cond.methodLink RX5 73 yX4_readInto, Cond.instanceMethod yX4_readInto, Cond.selects RX4 yX4_readInto yX4_readInto, Cond.code yX4_readInto cX4_readInto 3 none, Cond.fieldLink RX4 27 "TandemExchange$Circle" "size" "I", Cond.fieldLink RX4 32 "TandemExchange$Circle" "weeks" "I", Cond.methodLink RX4 35 yX4_number, Cond.instanceMethod yX4_number, Cond.selects RX4 yX4_number yX4_number, Cond.code yX4_number cX4_number 5 (some .int), Cond.methodLink RX4 39 yX1_add, Cond.instanceMethod yX1_add, Cond.selects RX1 yX1_add yX1_add, Cond.initialized RX1, Cond.code yX1_add cX1_add 4 none, Cond.fieldLink RX1 18 "TandemExchange$Circle" "size" "I", Cond.fieldLink RX1 11 "TandemExchange$Circle" "members" "[LTandemExchange$Member;", Cond.methodLink RX1 90 yX3_start, Cond.instanceMethod yX3_start, Cond.selects RX3 yX3_start yX3_start]
def wsL_load_r3 : List Cond := [Cond.initialized RX3, Cond.code yX3_start cX3_start 6 none, Cond.fieldLink RX3 9 "TandemExchange$Member" "levels" "[I", Cond.fieldLink RX3 21 "TandemExchange$Member" "wants" "I", Cond.fieldLink RX3 25 "TandemExchange$Member" "progress" "I", Cond.fieldLink RX3 28 "TandemExchange$Member" "credits" "I", Cond.fieldLink RX3 31 "TandemExchange$Member" "missed" "I", Cond.fieldLink RX3 34 "TandemExchange$Member" "partner" "I", Cond.fieldLink RX3 37 "TandemExchange$Member" "missedInRow" "I", Cond.methodLink RX5 77 yX2_forget, Cond.instanceMethod yX2_forget, Cond.selects RX2 yX2_forget yX2_forget, Cond.initialized RX2, Cond.code yX2_forget cX2_forget 1 none, Cond.fieldLink RX2 18 "TandemExchange$History" "count" "I"]
def wsL_load : List Cond := .codeWith yL_load cL_load 3 (some .int) [(0, 8, 11, 15)] :: ((wsL_load_r1 ++ (wsL_load_r2 ++ wsL_load_r3)) ++ wsX50 ++ wsX10 ++ wsX40 ++ wsX30 ++ wsX20 ++ (vx_atS RX5 60 "java/lang/IllegalStateException" ["java/lang/RuntimeException", "java/lang/Exception"]).filter goodWord)
def wsL_about_r1 : List Cond := [Cond.classLink RL 13 "java/lang/IllegalArgumentException", Cond.methodLink RL 21 yX5_about, Cond.instanceMethod yX5_about, Cond.selects RX5 yX5_about yX5_about, Cond.initialized RX5, Cond.code yX5_about cX5_about 2 (some .int), Cond.classLink RX5 101 "java/lang/IllegalArgumentException", Cond.initialized "java/lang/IllegalArgumentException", Cond.fieldLink RX5 19 "TandemExchange" "circle" "LTandemExchange$Circle;", Cond.fieldLink RX5 80 "TandemExchange$Circle" "size" "I", Cond.fieldLink RX5 86 "TandemExchange$Circle" "weeks" "I", Cond.methodLink RX5 83 yX1_countPairs, Cond.instanceMethod yX1_countPairs, Cond.selects RX1 yX1_countPairs yX1_countPairs, Cond.initialized RX1, Cond.code yX1_countPairs cX1_countPairs 3 (some .int), Cond.fieldLink RX1 18 "TandemExchange$Circle" "size" "I", Cond.methodLink RX1 81 yX1_greaterPartner, Cond.instanceMethod yX1_greaterPartner, Cond.selects RX1 yX1_greaterPartner yX1_greaterPartner, Cond.code yX1_greaterPartner cX1_greaterPartner 3 (some .int), Cond.fieldLink RX1 11 "TandemExchange$Circle" "members" "[LTandemExchange$Member;", Cond.fieldLink RX1 29 "TandemExchange$Member" "partner" "I", Cond.methodLink RX1 32 yX1_has]
def wsL_about_r2 : List Cond := [Cond.instanceMethod yX1_has, Cond.selects RX1 yX1_has yX1_has, Cond.code yX1_has cX1_has 2 (some .boolean), Cond.methodLink RX5 89 yX1_sumOfValues, Cond.instanceMethod yX1_sumOfValues, Cond.selects RX1 yX1_sumOfValues yX1_sumOfValues, Cond.code yX1_sumOfValues cX1_sumOfValues 4 (some .int), Cond.methodLink RX1 84 yX1_value, Cond.instanceMethod yX1_value, Cond.selects RX1 yX1_value yX1_value, Cond.code yX1_value cX1_value 3 (some .int), Cond.methodLink RX1 71 yX1_score, Cond.instanceMethod yX1_score, Cond.selects RX1 yX1_score yX1_score, Cond.code yX1_score cX1_score 4 (some .int), Cond.fieldLink RX1 49 "TandemExchange$Member" "missed" "I", Cond.fieldLink RX1 46 "TandemExchange$Member" "credits" "I", Cond.methodLink RX1 62 yX1_lead, Cond.instanceMethod yX1_lead, Cond.selects RX1 yX1_lead yX1_lead, Cond.code yX1_lead cX1_lead 4 (some .int), Cond.fieldLink RX1 40 "TandemExchange$Member" "wants" "I", Cond.fieldLink RX1 36 "TandemExchange$Member" "levels" "[I", Cond.methodLink RX1 66 yJ9_floorDiv_7cf53]
def wsL_about_r3 : List Cond := [Cond.static yJ9_floorDiv_7cf53, Cond.initialized RJ9, Cond.code yJ9_floorDiv_7cf53 cJ9_floorDiv_7cf53 3 (some .int), Cond.methodLink RX5 92 yX1_countBlocking, Cond.instanceMethod yX1_countBlocking, Cond.selects RX1 yX1_countBlocking yX1_countBlocking, Cond.code yX1_countBlocking cX1_countBlocking 4 (some .int), Cond.methodLink RX1 87 yX1_block, Cond.instanceMethod yX1_block, Cond.selects RX1 yX1_block yX1_block, Cond.code yX1_block cX1_block 3 (some .boolean), Cond.methodLink RX1 74 yX1_fit, Cond.instanceMethod yX1_fit, Cond.selects RX1 yX1_fit yX1_fit, Cond.code yX1_fit cX1_fit 3 (some .boolean), Cond.methodLink RX1 78 yX1_prefers, Cond.instanceMethod yX1_prefers, Cond.selects RX1 yX1_prefers yX1_prefers, Cond.code yX1_prefers cX1_prefers 4 (some .boolean), Cond.methodLink RX5 95 yX1_sumOfCredits, Cond.instanceMethod yX1_sumOfCredits, Cond.selects RX1 yX1_sumOfCredits yX1_sumOfCredits, Cond.code yX1_sumOfCredits cX1_sumOfCredits 3 (some .int), Cond.methodLink RX5 98 yX1_countFitting]
def wsL_about_r4 : List Cond := [Cond.instanceMethod yX1_countFitting, Cond.selects RX1 yX1_countFitting yX1_countFitting, Cond.code yX1_countFitting cX1_countFitting 3 (some .int), Cond.methodLink RX1 58 yX1_countFittingWith, Cond.instanceMethod yX1_countFittingWith, Cond.selects RX1 yX1_countFittingWith yX1_countFittingWith, Cond.code yX1_countFittingWith cX1_countFittingWith 4 (some .int)]
def wsL_about : List Cond := .codeWith yL_about cL_about 4 (some .int) [(0, 9, 12, 13)] :: ((wsL_about_r1 ++ (wsL_about_r2 ++ (wsL_about_r3 ++ wsL_about_r4))) ++ wsX50 ++ wsX10 ++ wsX30 ++ (vx_atS RX5 105 "java/lang/IllegalArgumentException" ["java/lang/RuntimeException", "java/lang/Exception"]).filter goodWord)
def wsL_member_r1 : List Cond := [Cond.classLink RL 28 "java/lang/IndexOutOfBoundsException", Cond.classLink RL 13 "java/lang/IllegalArgumentException", Cond.methodLink RL 24 yX5_member, Cond.instanceMethod yX5_member, Cond.selects RX5 yX5_member yX5_member, Cond.initialized RX5, Cond.code yX5_member cX5_member 3 (some .int), Cond.fieldLink RX5 19 "TandemExchange" "circle" "LTandemExchange$Circle;", Cond.methodLink RX5 106 yX5_requireMember, Cond.instanceMethod yX5_requireMember, Cond.selects RX5 yX5_requireMember yX5_requireMember, Cond.code yX5_requireMember cX5_requireMember 2 none, Cond.classLink RX5 255 "java/lang/IndexOutOfBoundsException", Cond.initialized "java/lang/IndexOutOfBoundsException", Cond.methodLink RX5 252 yX1_has, Cond.instanceMethod yX1_has, Cond.selects RX1 yX1_has yX1_has, Cond.initialized RX1, Cond.code yX1_has cX1_has 2 (some .boolean), Cond.fieldLink RX1 18 "TandemExchange$Circle" "size" "I", Cond.methodLink RX5 48 yX5_requireRange, Cond.static yX5_requireRange, Cond.code yX5_requireRange cX5_requireRange 3 none, Cond.classLink RX5 101 "java/lang/IllegalArgumentException"]
def wsL_member_r2 : List Cond := [Cond.initialized "java/lang/IllegalArgumentException", Cond.methodLink RX5 110 yX1_numberOf, Cond.instanceMethod yX1_numberOf, Cond.selects RX1 yX1_numberOf yX1_numberOf, Cond.code yX1_numberOf cX1_numberOf 4 (some .int), Cond.fieldLink RX1 11 "TandemExchange$Circle" "members" "[LTandemExchange$Member;", Cond.fieldLink RX1 36 "TandemExchange$Member" "levels" "[I", Cond.fieldLink RX1 40 "TandemExchange$Member" "wants" "I", Cond.fieldLink RX1 43 "TandemExchange$Member" "progress" "I", Cond.fieldLink RX1 46 "TandemExchange$Member" "credits" "I", Cond.fieldLink RX1 49 "TandemExchange$Member" "missed" "I", Cond.fieldLink RX1 29 "TandemExchange$Member" "partner" "I", Cond.fieldLink RX1 55 "TandemExchange$Member" "missedInRow" "I", Cond.methodLink RX1 52 yX1_isFree, Cond.instanceMethod yX1_isFree, Cond.selects RX1 yX1_isFree yX1_isFree, Cond.code yX1_isFree cX1_isFree 2 (some .boolean), Cond.methodLink RX1 58 yX1_countFittingWith, Cond.instanceMethod yX1_countFittingWith, Cond.selects RX1 yX1_countFittingWith yX1_countFittingWith, Cond.code yX1_countFittingWith cX1_countFittingWith 4 (some .int), Cond.methodLink RX1 74 yX1_fit, Cond.instanceMethod yX1_fit, Cond.selects RX1 yX1_fit yX1_fit]
def wsL_member_r3 : List Cond := [Cond.code yX1_fit cX1_fit 3 (some .boolean), Cond.methodLink RX1 62 yX1_lead, Cond.instanceMethod yX1_lead, Cond.selects RX1 yX1_lead yX1_lead, Cond.code yX1_lead cX1_lead 4 (some .int)]
def wsL_member : List Cond := .codeWith yL_member cL_member 5 (some .int) [(0, 10, 13, 28), (0, 10, 17, 13)] :: ((wsL_member_r1 ++ (wsL_member_r2 ++ wsL_member_r3)) ++ wsX50 ++ wsX10 ++ wsX30 ++ (vx_atS RX5 259 "java/lang/IndexOutOfBoundsException" ["java/lang/RuntimeException", "java/lang/Exception"]).filter goodWord ++ (vx_atS RX5 105 "java/lang/IllegalArgumentException" ["java/lang/RuntimeException", "java/lang/Exception"]).filter goodWord)
def wsL_both_r1 : List Cond := [Cond.classLink RL 28 "java/lang/IndexOutOfBoundsException", Cond.classLink RL 13 "java/lang/IllegalArgumentException", Cond.methodLink RL 30 yX5_both, Cond.instanceMethod yX5_both, Cond.selects RX5 yX5_both yX5_both, Cond.initialized RX5, Cond.code yX5_both cX5_both 4 (some .int), Cond.classLink RX5 101 "java/lang/IllegalArgumentException", Cond.initialized "java/lang/IllegalArgumentException", Cond.fieldLink RX5 19 "TandemExchange" "circle" "LTandemExchange$Circle;", Cond.methodLink RX5 114 yX5_requireTwoMembers, Cond.instanceMethod yX5_requireTwoMembers, Cond.selects RX5 yX5_requireTwoMembers yX5_requireTwoMembers, Cond.code yX5_requireTwoMembers cX5_requireTwoMembers 3 none, Cond.methodLink RX5 106 yX5_requireMember, Cond.instanceMethod yX5_requireMember, Cond.selects RX5 yX5_requireMember yX5_requireMember, Cond.code yX5_requireMember cX5_requireMember 2 none, Cond.classLink RX5 255 "java/lang/IndexOutOfBoundsException", Cond.initialized "java/lang/IndexOutOfBoundsException", Cond.methodLink RX5 252 yX1_has, Cond.instanceMethod yX1_has, Cond.selects RX1 yX1_has yX1_has, Cond.initialized RX1]
def wsL_both_r2 : List Cond := [Cond.code yX1_has cX1_has 2 (some .boolean), Cond.fieldLink RX1 18 "TandemExchange$Circle" "size" "I", Cond.methodLink RX5 118 yX1_score, Cond.instanceMethod yX1_score, Cond.selects RX1 yX1_score yX1_score, Cond.code yX1_score cX1_score 4 (some .int), Cond.fieldLink RX1 11 "TandemExchange$Circle" "members" "[LTandemExchange$Member;", Cond.fieldLink RX1 49 "TandemExchange$Member" "missed" "I", Cond.fieldLink RX1 46 "TandemExchange$Member" "credits" "I", Cond.methodLink RX1 62 yX1_lead, Cond.instanceMethod yX1_lead, Cond.selects RX1 yX1_lead yX1_lead, Cond.code yX1_lead cX1_lead 4 (some .int), Cond.fieldLink RX1 40 "TandemExchange$Member" "wants" "I", Cond.fieldLink RX1 36 "TandemExchange$Member" "levels" "[I", Cond.methodLink RX1 66 yJ9_floorDiv_7cf53, Cond.static yJ9_floorDiv_7cf53, Cond.initialized RJ9, Cond.code yJ9_floorDiv_7cf53 cJ9_floorDiv_7cf53 3 (some .int), Cond.methodLink RX5 121 yX1_value, Cond.instanceMethod yX1_value, Cond.selects RX1 yX1_value yX1_value, Cond.code yX1_value cX1_value 3 (some .int), Cond.methodLink RX1 71 yX1_score]
def wsL_both_r3 : List Cond := [Cond.methodLink RX5 124 yX1_fit, Cond.instanceMethod yX1_fit, Cond.selects RX1 yX1_fit yX1_fit, Cond.code yX1_fit cX1_fit 3 (some .boolean), Cond.methodLink RX5 128 yX1_block, Cond.instanceMethod yX1_block, Cond.selects RX1 yX1_block yX1_block, Cond.code yX1_block cX1_block 3 (some .boolean), Cond.fieldLink RX1 29 "TandemExchange$Member" "partner" "I", Cond.methodLink RX1 74 yX1_fit, Cond.methodLink RX1 78 yX1_prefers, Cond.instanceMethod yX1_prefers, Cond.selects RX1 yX1_prefers yX1_prefers, Cond.code yX1_prefers cX1_prefers 4 (some .boolean), Cond.methodLink RX1 32 yX1_has]
def wsL_both : List Cond := .codeWith yL_both cL_both 6 (some .int) [(0, 12, 15, 28), (0, 12, 19, 13)] :: ((wsL_both_r1 ++ (wsL_both_r2 ++ wsL_both_r3)) ++ wsX50 ++ wsX10 ++ wsX30 ++ (vx_atS RX5 105 "java/lang/IllegalArgumentException" ["java/lang/RuntimeException", "java/lang/Exception"]).filter goodWord ++ (vx_atS RX5 259 "java/lang/IndexOutOfBoundsException" ["java/lang/RuntimeException", "java/lang/Exception"]).filter goodWord)
def wsL_join_r1 : List Cond := [Cond.classLink RL 13 "java/lang/IllegalArgumentException", Cond.classLink RL 15 "java/lang/IllegalStateException", Cond.methodLink RL 34 yX5_join, Cond.instanceMethod yX5_join, Cond.selects RX5 yX5_join yX5_join, Cond.initialized RX5, Cond.code yX5_join cX5_join 4 (some .int), Cond.classLink RX5 56 "java/lang/IllegalStateException", Cond.initialized "java/lang/IllegalStateException", Cond.fieldLink RX5 19 "TandemExchange" "circle" "LTandemExchange$Circle;", Cond.fieldLink RX5 80 "TandemExchange$Circle" "size" "I", Cond.fieldLink RX5 29 "TandemExchange" "history" "LTandemExchange$History;", Cond.methodLink RX5 133 yX5_requireLanguage, Cond.static yX5_requireLanguage, Cond.code yX5_requireLanguage cX5_requireLanguage 1 none, Cond.methodLink RX5 48 yX5_requireRange, Cond.static yX5_requireRange, Cond.code yX5_requireRange cX5_requireRange 3 none, Cond.classLink RX5 101 "java/lang/IllegalArgumentException", Cond.initialized "java/lang/IllegalArgumentException", Cond.methodLink RX5 138 yX2_remember, Cond.instanceMethod yX2_remember, Cond.selects RX2 yX2_remember yX2_remember, Cond.initialized RX2]
def wsL_join_r2 : List Cond := [Cond.code yX2_remember cX2_remember 2 none, Cond.fieldLink RX2 18 "TandemExchange$History" "count" "I", Cond.fieldLink RX2 22 "TandemExchange$History" "oldest" "I", Cond.fieldLink RX2 11 "TandemExchange$History" "states" "[LTandemExchange$Circle;", Cond.methodLink RX2 25 yX1_copyFrom, Cond.instanceMethod yX1_copyFrom, Cond.selects RX1 yX1_copyFrom yX1_copyFrom, Cond.initialized RX1, Cond.code yX1_copyFrom cX1_copyFrom 3 none, Cond.fieldLink RX1 18 "TandemExchange$Circle" "size" "I", Cond.fieldLink RX1 11 "TandemExchange$Circle" "members" "[LTandemExchange$Member;", Cond.fieldLink RX1 26 "TandemExchange$Circle" "weeks" "I", Cond.methodLink RX1 22 yX3_copyFrom, Cond.instanceMethod yX3_copyFrom, Cond.selects RX3 yX3_copyFrom yX3_copyFrom, Cond.initialized RX3, Cond.code yX3_copyFrom cX3_copyFrom 2 none, Cond.fieldLink RX3 9 "TandemExchange$Member" "levels" "[I", Cond.methodLink RX3 15 arraycopyName, Cond.native arraycopyName, Cond.static arraycopyName, Cond.initialized "java/lang/System", Cond.fieldLink RX3 21 "TandemExchange$Member" "wants" "I", Cond.fieldLink RX3 25 "TandemExchange$Member" "progress" "I"]
def wsL_join_r3 : List Cond := [Cond.fieldLink RX3 28 "TandemExchange$Member" "credits" "I", Cond.fieldLink RX3 31 "TandemExchange$Member" "missed" "I", Cond.fieldLink RX3 34 "TandemExchange$Member" "partner" "I", Cond.fieldLink RX3 37 "TandemExchange$Member" "missedInRow" "I", Cond.methodLink RX5 141 yX1_add, Cond.instanceMethod yX1_add, Cond.selects RX1 yX1_add yX1_add, Cond.code yX1_add cX1_add 4 none, Cond.methodLink RX1 90 yX3_start, Cond.instanceMethod yX3_start, Cond.selects RX3 yX3_start yX3_start, Cond.code yX3_start cX3_start 6 none]
def wsL_join : List Cond := .codeWith yL_join cL_join 6 (some .int) [(0, 12, 15, 13), (0, 12, 19, 15)] :: ((wsL_join_r1 ++ (wsL_join_r2 ++ wsL_join_r3)) ++ wsX50 ++ wsX10 ++ wsX20 ++ wsX30 ++ (vx_atS RX5 60 "java/lang/IllegalStateException" ["java/lang/RuntimeException", "java/lang/Exception"]).filter goodWord ++ (vx_atS RX5 105 "java/lang/IllegalArgumentException" ["java/lang/RuntimeException", "java/lang/Exception"]).filter goodWord)
def wsL_leave_r1 : List Cond := [Cond.classLink RL 28 "java/lang/IndexOutOfBoundsException", Cond.methodLink RL 37 yX5_leave, Cond.instanceMethod yX5_leave, Cond.selects RX5 yX5_leave yX5_leave, Cond.initialized RX5, Cond.code yX5_leave cX5_leave 3 (some .int), Cond.fieldLink RX5 29 "TandemExchange" "history" "LTandemExchange$History;", Cond.fieldLink RX5 19 "TandemExchange" "circle" "LTandemExchange$Circle;", Cond.fieldLink RX5 143 "TandemExchange$Circle" "members" "[LTandemExchange$Member;", Cond.fieldLink RX5 147 "TandemExchange$Member" "credits" "I", Cond.methodLink RX5 106 yX5_requireMember, Cond.instanceMethod yX5_requireMember, Cond.selects RX5 yX5_requireMember yX5_requireMember, Cond.code yX5_requireMember cX5_requireMember 2 none, Cond.classLink RX5 255 "java/lang/IndexOutOfBoundsException", Cond.initialized "java/lang/IndexOutOfBoundsException", Cond.methodLink RX5 252 yX1_has, Cond.instanceMethod yX1_has, Cond.selects RX1 yX1_has yX1_has, Cond.initialized RX1, Cond.code yX1_has cX1_has 2 (some .boolean), Cond.fieldLink RX1 18 "TandemExchange$Circle" "size" "I", Cond.methodLink RX5 138 yX2_remember, Cond.instanceMethod yX2_remember]
def wsL_leave_r2 : List Cond := [Cond.selects RX2 yX2_remember yX2_remember, Cond.initialized RX2, Cond.code yX2_remember cX2_remember 2 none, Cond.fieldLink RX2 18 "TandemExchange$History" "count" "I", Cond.fieldLink RX2 22 "TandemExchange$History" "oldest" "I", Cond.fieldLink RX2 11 "TandemExchange$History" "states" "[LTandemExchange$Circle;", Cond.methodLink RX2 25 yX1_copyFrom, Cond.instanceMethod yX1_copyFrom, Cond.selects RX1 yX1_copyFrom yX1_copyFrom, Cond.code yX1_copyFrom cX1_copyFrom 3 none, Cond.fieldLink RX1 11 "TandemExchange$Circle" "members" "[LTandemExchange$Member;", Cond.fieldLink RX1 26 "TandemExchange$Circle" "weeks" "I", Cond.methodLink RX1 22 yX3_copyFrom, Cond.instanceMethod yX3_copyFrom, Cond.selects RX3 yX3_copyFrom yX3_copyFrom, Cond.initialized RX3, Cond.code yX3_copyFrom cX3_copyFrom 2 none, Cond.fieldLink RX3 9 "TandemExchange$Member" "levels" "[I", Cond.methodLink RX3 15 arraycopyName, Cond.native arraycopyName, Cond.static arraycopyName, Cond.initialized "java/lang/System", Cond.fieldLink RX3 21 "TandemExchange$Member" "wants" "I", Cond.fieldLink RX3 25 "TandemExchange$Member" "progress" "I"]
def wsL_leave_r3 : List Cond := [Cond.fieldLink RX3 28 "TandemExchange$Member" "credits" "I", Cond.fieldLink RX3 31 "TandemExchange$Member" "missed" "I", Cond.fieldLink RX3 34 "TandemExchange$Member" "partner" "I", Cond.fieldLink RX3 37 "TandemExchange$Member" "missedInRow" "I", Cond.methodLink RX5 152 yX1_remove, Cond.instanceMethod yX1_remove, Cond.selects RX1 yX1_remove yX1_remove, Cond.code yX1_remove cX1_remove 3 none, Cond.fieldLink RX1 29 "TandemExchange$Member" "partner" "I", Cond.methodLink RX1 94 yX1_separate, Cond.instanceMethod yX1_separate, Cond.selects RX1 yX1_separate yX1_separate, Cond.code yX1_separate cX1_separate 3 none, Cond.methodLink RX1 32 yX1_has]
def wsL_leave : List Cond := .codeWith yL_leave cL_leave 4 (some .int) [(0, 9, 12, 28)] :: ((wsL_leave_r1 ++ (wsL_leave_r2 ++ wsL_leave_r3)) ++ wsX50 ++ wsX10 ++ wsX30 ++ wsX20 ++ (vx_atS RX5 259 "java/lang/IndexOutOfBoundsException" ["java/lang/RuntimeException", "java/lang/Exception"]).filter goodWord)
def wsL_want_r1 : List Cond := [Cond.classLink RL 28 "java/lang/IndexOutOfBoundsException", Cond.classLink RL 13 "java/lang/IllegalArgumentException", Cond.methodLink RL 40 yX5_want, Cond.instanceMethod yX5_want, Cond.selects RX5 yX5_want yX5_want, Cond.initialized RX5, Cond.code yX5_want cX5_want 4 (some .int), Cond.fieldLink RX5 29 "TandemExchange" "history" "LTandemExchange$History;", Cond.fieldLink RX5 19 "TandemExchange" "circle" "LTandemExchange$Circle;", Cond.fieldLink RX5 143 "TandemExchange$Circle" "members" "[LTandemExchange$Member;", Cond.fieldLink RX5 155 "TandemExchange$Member" "wants" "I", Cond.methodLink RX5 106 yX5_requireMember, Cond.instanceMethod yX5_requireMember, Cond.selects RX5 yX5_requireMember yX5_requireMember, Cond.code yX5_requireMember cX5_requireMember 2 none, Cond.classLink RX5 255 "java/lang/IndexOutOfBoundsException", Cond.initialized "java/lang/IndexOutOfBoundsException", Cond.methodLink RX5 252 yX1_has, Cond.instanceMethod yX1_has, Cond.selects RX1 yX1_has yX1_has, Cond.initialized RX1, Cond.code yX1_has cX1_has 2 (some .boolean), Cond.fieldLink RX1 18 "TandemExchange$Circle" "size" "I", Cond.methodLink RX5 133 yX5_requireLanguage]
def wsL_want_r2 : List Cond := [Cond.static yX5_requireLanguage, Cond.code yX5_requireLanguage cX5_requireLanguage 1 none, Cond.methodLink RX5 48 yX5_requireRange, Cond.static yX5_requireRange, Cond.code yX5_requireRange cX5_requireRange 3 none, Cond.classLink RX5 101 "java/lang/IllegalArgumentException", Cond.initialized "java/lang/IllegalArgumentException", Cond.methodLink RX5 138 yX2_remember, Cond.instanceMethod yX2_remember, Cond.selects RX2 yX2_remember yX2_remember, Cond.initialized RX2, Cond.code yX2_remember cX2_remember 2 none, Cond.fieldLink RX2 18 "TandemExchange$History" "count" "I", Cond.fieldLink RX2 22 "TandemExchange$History" "oldest" "I", Cond.fieldLink RX2 11 "TandemExchange$History" "states" "[LTandemExchange$Circle;", Cond.methodLink RX2 25 yX1_copyFrom, Cond.instanceMethod yX1_copyFrom, Cond.selects RX1 yX1_copyFrom yX1_copyFrom, Cond.code yX1_copyFrom cX1_copyFrom 3 none, Cond.fieldLink RX1 11 "TandemExchange$Circle" "members" "[LTandemExchange$Member;", Cond.fieldLink RX1 26 "TandemExchange$Circle" "weeks" "I", Cond.methodLink RX1 22 yX3_copyFrom, Cond.instanceMethod yX3_copyFrom, Cond.selects RX3 yX3_copyFrom yX3_copyFrom]
def wsL_want_r3 : List Cond := [Cond.initialized RX3, Cond.code yX3_copyFrom cX3_copyFrom 2 none, Cond.fieldLink RX3 9 "TandemExchange$Member" "levels" "[I", Cond.methodLink RX3 15 arraycopyName, Cond.native arraycopyName, Cond.static arraycopyName, Cond.initialized "java/lang/System", Cond.fieldLink RX3 21 "TandemExchange$Member" "wants" "I", Cond.fieldLink RX3 25 "TandemExchange$Member" "progress" "I", Cond.fieldLink RX3 28 "TandemExchange$Member" "credits" "I", Cond.fieldLink RX3 31 "TandemExchange$Member" "missed" "I", Cond.fieldLink RX3 34 "TandemExchange$Member" "partner" "I", Cond.fieldLink RX3 37 "TandemExchange$Member" "missedInRow" "I", Cond.methodLink RX5 158 yX1_changeWish, Cond.instanceMethod yX1_changeWish, Cond.selects RX1 yX1_changeWish yX1_changeWish, Cond.code yX1_changeWish cX1_changeWish 3 none, Cond.fieldLink RX1 40 "TandemExchange$Member" "wants" "I", Cond.fieldLink RX1 43 "TandemExchange$Member" "progress" "I", Cond.methodLink RX1 98 yX1_separateIfUnfit, Cond.instanceMethod yX1_separateIfUnfit, Cond.selects RX1 yX1_separateIfUnfit yX1_separateIfUnfit, Cond.code yX1_separateIfUnfit cX1_separateIfUnfit 3 none, Cond.fieldLink RX1 29 "TandemExchange$Member" "partner" "I"]
def wsL_want_r4 : List Cond := [Cond.methodLink RX1 32 yX1_has, Cond.methodLink RX1 74 yX1_fit, Cond.instanceMethod yX1_fit, Cond.selects RX1 yX1_fit yX1_fit, Cond.code yX1_fit cX1_fit 3 (some .boolean), Cond.methodLink RX1 62 yX1_lead, Cond.instanceMethod yX1_lead, Cond.selects RX1 yX1_lead yX1_lead, Cond.code yX1_lead cX1_lead 4 (some .int), Cond.fieldLink RX1 36 "TandemExchange$Member" "levels" "[I", Cond.methodLink RX1 94 yX1_separate, Cond.instanceMethod yX1_separate, Cond.selects RX1 yX1_separate yX1_separate, Cond.code yX1_separate cX1_separate 3 none]
def wsL_want : List Cond := .codeWith yL_want cL_want 5 (some .int) [(0, 10, 13, 28), (0, 10, 17, 13)] :: ((wsL_want_r1 ++ (wsL_want_r2 ++ (wsL_want_r3 ++ wsL_want_r4))) ++ wsX50 ++ wsX10 ++ wsX30 ++ wsX20 ++ (vx_atS RX5 259 "java/lang/IndexOutOfBoundsException" ["java/lang/RuntimeException", "java/lang/Exception"]).filter goodWord ++ (vx_atS RX5 105 "java/lang/IllegalArgumentException" ["java/lang/RuntimeException", "java/lang/Exception"]).filter goodWord)
def wsL_test_r1 : List Cond := [Cond.classLink RL 28 "java/lang/IndexOutOfBoundsException", Cond.classLink RL 13 "java/lang/IllegalArgumentException", Cond.methodLink RL 43 yX5_test, Cond.instanceMethod yX5_test, Cond.selects RX5 yX5_test yX5_test, Cond.initialized RX5, Cond.code yX5_test cX5_test 5 (some .int), Cond.fieldLink RX5 29 "TandemExchange" "history" "LTandemExchange$History;", Cond.fieldLink RX5 19 "TandemExchange" "circle" "LTandemExchange$Circle;", Cond.fieldLink RX5 143 "TandemExchange$Circle" "members" "[LTandemExchange$Member;", Cond.fieldLink RX5 161 "TandemExchange$Member" "levels" "[I", Cond.methodLink RX5 106 yX5_requireMember, Cond.instanceMethod yX5_requireMember, Cond.selects RX5 yX5_requireMember yX5_requireMember, Cond.code yX5_requireMember cX5_requireMember 2 none, Cond.classLink RX5 255 "java/lang/IndexOutOfBoundsException", Cond.initialized "java/lang/IndexOutOfBoundsException", Cond.methodLink RX5 252 yX1_has, Cond.instanceMethod yX1_has, Cond.selects RX1 yX1_has yX1_has, Cond.initialized RX1, Cond.code yX1_has cX1_has 2 (some .boolean), Cond.fieldLink RX1 18 "TandemExchange$Circle" "size" "I", Cond.methodLink RX5 133 yX5_requireLanguage]
def wsL_test_r2 : List Cond := [Cond.static yX5_requireLanguage, Cond.code yX5_requireLanguage cX5_requireLanguage 1 none, Cond.methodLink RX5 48 yX5_requireRange, Cond.static yX5_requireRange, Cond.code yX5_requireRange cX5_requireRange 3 none, Cond.classLink RX5 101 "java/lang/IllegalArgumentException", Cond.initialized "java/lang/IllegalArgumentException", Cond.methodLink RX5 138 yX2_remember, Cond.instanceMethod yX2_remember, Cond.selects RX2 yX2_remember yX2_remember, Cond.initialized RX2, Cond.code yX2_remember cX2_remember 2 none, Cond.fieldLink RX2 18 "TandemExchange$History" "count" "I", Cond.fieldLink RX2 22 "TandemExchange$History" "oldest" "I", Cond.fieldLink RX2 11 "TandemExchange$History" "states" "[LTandemExchange$Circle;", Cond.methodLink RX2 25 yX1_copyFrom, Cond.instanceMethod yX1_copyFrom, Cond.selects RX1 yX1_copyFrom yX1_copyFrom, Cond.code yX1_copyFrom cX1_copyFrom 3 none, Cond.fieldLink RX1 11 "TandemExchange$Circle" "members" "[LTandemExchange$Member;", Cond.fieldLink RX1 26 "TandemExchange$Circle" "weeks" "I", Cond.methodLink RX1 22 yX3_copyFrom, Cond.instanceMethod yX3_copyFrom, Cond.selects RX3 yX3_copyFrom yX3_copyFrom]
def wsL_test_r3 : List Cond := [Cond.initialized RX3, Cond.code yX3_copyFrom cX3_copyFrom 2 none, Cond.fieldLink RX3 9 "TandemExchange$Member" "levels" "[I", Cond.methodLink RX3 15 arraycopyName, Cond.native arraycopyName, Cond.static arraycopyName, Cond.initialized "java/lang/System", Cond.fieldLink RX3 21 "TandemExchange$Member" "wants" "I", Cond.fieldLink RX3 25 "TandemExchange$Member" "progress" "I", Cond.fieldLink RX3 28 "TandemExchange$Member" "credits" "I", Cond.fieldLink RX3 31 "TandemExchange$Member" "missed" "I", Cond.fieldLink RX3 34 "TandemExchange$Member" "partner" "I", Cond.fieldLink RX3 37 "TandemExchange$Member" "missedInRow" "I", Cond.methodLink RX5 165 yX1_grade, Cond.instanceMethod yX1_grade, Cond.selects RX1 yX1_grade yX1_grade, Cond.code yX1_grade cX1_grade 5 none, Cond.fieldLink RX1 36 "TandemExchange$Member" "levels" "[I", Cond.fieldLink RX1 40 "TandemExchange$Member" "wants" "I", Cond.fieldLink RX1 43 "TandemExchange$Member" "progress" "I", Cond.methodLink RX1 98 yX1_separateIfUnfit, Cond.instanceMethod yX1_separateIfUnfit, Cond.selects RX1 yX1_separateIfUnfit yX1_separateIfUnfit, Cond.code yX1_separateIfUnfit cX1_separateIfUnfit 3 none]
def wsL_test_r4 : List Cond := [Cond.fieldLink RX1 29 "TandemExchange$Member" "partner" "I", Cond.methodLink RX1 32 yX1_has, Cond.methodLink RX1 74 yX1_fit, Cond.instanceMethod yX1_fit, Cond.selects RX1 yX1_fit yX1_fit, Cond.code yX1_fit cX1_fit 3 (some .boolean), Cond.methodLink RX1 62 yX1_lead, Cond.instanceMethod yX1_lead, Cond.selects RX1 yX1_lead yX1_lead, Cond.code yX1_lead cX1_lead 4 (some .int), Cond.methodLink RX1 94 yX1_separate, Cond.instanceMethod yX1_separate, Cond.selects RX1 yX1_separate yX1_separate, Cond.code yX1_separate cX1_separate 3 none]
def wsL_test : List Cond := .codeWith yL_test cL_test 6 (some .int) [(0, 12, 15, 28), (0, 12, 19, 13)] :: ((wsL_test_r1 ++ (wsL_test_r2 ++ (wsL_test_r3 ++ wsL_test_r4))) ++ wsX50 ++ wsX10 ++ wsX30 ++ wsX20 ++ (vx_atS RX5 259 "java/lang/IndexOutOfBoundsException" ["java/lang/RuntimeException", "java/lang/Exception"]).filter goodWord ++ (vx_atS RX5 105 "java/lang/IllegalArgumentException" ["java/lang/RuntimeException", "java/lang/Exception"]).filter goodWord)
def wsL_pair_r1 : List Cond := [Cond.classLink RL 28 "java/lang/IndexOutOfBoundsException", Cond.classLink RL 13 "java/lang/IllegalArgumentException", Cond.classLink RL 15 "java/lang/IllegalStateException", Cond.methodLink RL 46 yX5_pair, Cond.instanceMethod yX5_pair, Cond.selects RX5 yX5_pair yX5_pair, Cond.initialized RX5, Cond.code yX5_pair cX5_pair 3 (some .int), Cond.classLink RX5 56 "java/lang/IllegalStateException", Cond.initialized "java/lang/IllegalStateException", Cond.fieldLink RX5 19 "TandemExchange" "circle" "LTandemExchange$Circle;", Cond.fieldLink RX5 29 "TandemExchange" "history" "LTandemExchange$History;", Cond.methodLink RX5 114 yX5_requireTwoMembers, Cond.instanceMethod yX5_requireTwoMembers, Cond.selects RX5 yX5_requireTwoMembers yX5_requireTwoMembers, Cond.code yX5_requireTwoMembers cX5_requireTwoMembers 3 none, Cond.classLink RX5 101 "java/lang/IllegalArgumentException", Cond.initialized "java/lang/IllegalArgumentException", Cond.methodLink RX5 106 yX5_requireMember, Cond.instanceMethod yX5_requireMember, Cond.selects RX5 yX5_requireMember yX5_requireMember, Cond.code yX5_requireMember cX5_requireMember 2 none, Cond.classLink RX5 255 "java/lang/IndexOutOfBoundsException", Cond.initialized "java/lang/IndexOutOfBoundsException"]
def wsL_pair_r2 : List Cond := [Cond.methodLink RX5 252 yX1_has, Cond.instanceMethod yX1_has, Cond.selects RX1 yX1_has yX1_has, Cond.initialized RX1, Cond.code yX1_has cX1_has 2 (some .boolean), Cond.fieldLink RX1 18 "TandemExchange$Circle" "size" "I", Cond.methodLink RX5 168 yX1_canBecomePartners, Cond.instanceMethod yX1_canBecomePartners, Cond.selects RX1 yX1_canBecomePartners yX1_canBecomePartners, Cond.code yX1_canBecomePartners cX1_canBecomePartners 3 (some .boolean), Cond.methodLink RX1 52 yX1_isFree, Cond.instanceMethod yX1_isFree, Cond.selects RX1 yX1_isFree yX1_isFree, Cond.code yX1_isFree cX1_isFree 2 (some .boolean), Cond.fieldLink RX1 11 "TandemExchange$Circle" "members" "[LTandemExchange$Member;", Cond.fieldLink RX1 29 "TandemExchange$Member" "partner" "I", Cond.methodLink RX1 74 yX1_fit, Cond.instanceMethod yX1_fit, Cond.selects RX1 yX1_fit yX1_fit, Cond.code yX1_fit cX1_fit 3 (some .boolean), Cond.methodLink RX1 62 yX1_lead, Cond.instanceMethod yX1_lead, Cond.selects RX1 yX1_lead yX1_lead, Cond.code yX1_lead cX1_lead 4 (some .int)]
def wsL_pair_r3 : List Cond := [Cond.fieldLink RX1 40 "TandemExchange$Member" "wants" "I", Cond.fieldLink RX1 36 "TandemExchange$Member" "levels" "[I", Cond.methodLink RX5 138 yX2_remember, Cond.instanceMethod yX2_remember, Cond.selects RX2 yX2_remember yX2_remember, Cond.initialized RX2, Cond.code yX2_remember cX2_remember 2 none, Cond.fieldLink RX2 18 "TandemExchange$History" "count" "I", Cond.fieldLink RX2 22 "TandemExchange$History" "oldest" "I", Cond.fieldLink RX2 11 "TandemExchange$History" "states" "[LTandemExchange$Circle;", Cond.methodLink RX2 25 yX1_copyFrom, Cond.instanceMethod yX1_copyFrom, Cond.selects RX1 yX1_copyFrom yX1_copyFrom, Cond.code yX1_copyFrom cX1_copyFrom 3 none, Cond.fieldLink RX1 26 "TandemExchange$Circle" "weeks" "I", Cond.methodLink RX1 22 yX3_copyFrom, Cond.instanceMethod yX3_copyFrom, Cond.selects RX3 yX3_copyFrom yX3_copyFrom, Cond.initialized RX3, Cond.code yX3_copyFrom cX3_copyFrom 2 none, Cond.fieldLink RX3 9 "TandemExchange$Member" "levels" "[I", Cond.methodLink RX3 15 arraycopyName, Cond.native arraycopyName, Cond.static arraycopyName]
def wsL_pair_r4 : List Cond := [Cond.initialized "java/lang/System", Cond.fieldLink RX3 21 "TandemExchange$Member" "wants" "I", Cond.fieldLink RX3 25 "TandemExchange$Member" "progress" "I", Cond.fieldLink RX3 28 "TandemExchange$Member" "credits" "I", Cond.fieldLink RX3 31 "TandemExchange$Member" "missed" "I", Cond.fieldLink RX3 34 "TandemExchange$Member" "partner" "I", Cond.fieldLink RX3 37 "TandemExchange$Member" "missedInRow" "I", Cond.methodLink RX5 173 yX1_unite, Cond.instanceMethod yX1_unite, Cond.selects RX1 yX1_unite yX1_unite, Cond.code yX1_unite cX1_unite 3 none, Cond.fieldLink RX1 55 "TandemExchange$Member" "missedInRow" "I", Cond.methodLink RX5 121 yX1_value, Cond.instanceMethod yX1_value, Cond.selects RX1 yX1_value yX1_value, Cond.code yX1_value cX1_value 3 (some .int), Cond.methodLink RX1 71 yX1_score, Cond.instanceMethod yX1_score, Cond.selects RX1 yX1_score yX1_score, Cond.code yX1_score cX1_score 4 (some .int), Cond.fieldLink RX1 49 "TandemExchange$Member" "missed" "I", Cond.fieldLink RX1 46 "TandemExchange$Member" "credits" "I", Cond.methodLink RX1 66 yJ9_floorDiv_7cf53, Cond.static yJ9_floorDiv_7cf53]
def wsL_pair_r5 : List Cond := [Cond.initialized RJ9, Cond.code yJ9_floorDiv_7cf53 cJ9_floorDiv_7cf53 3 (some .int)]
def wsL_pair : List Cond := .codeWith yL_pair cL_pair 5 (some .int) [(0, 10, 13, 28), (0, 10, 17, 13), (0, 10, 21, 15)] :: ((wsL_pair_r1 ++ (wsL_pair_r2 ++ (wsL_pair_r3 ++ (wsL_pair_r4 ++ wsL_pair_r5)))) ++ wsX50 ++ wsX10 ++ wsX30 ++ wsX20 ++ (vx_atS RX5 60 "java/lang/IllegalStateException" ["java/lang/RuntimeException", "java/lang/Exception"]).filter goodWord ++ (vx_atS RX5 105 "java/lang/IllegalArgumentException" ["java/lang/RuntimeException", "java/lang/Exception"]).filter goodWord ++ (vx_atS RX5 259 "java/lang/IndexOutOfBoundsException" ["java/lang/RuntimeException", "java/lang/Exception"]).filter goodWord)
def wsL_part_r1 : List Cond := [Cond.classLink RL 28 "java/lang/IndexOutOfBoundsException", Cond.classLink RL 15 "java/lang/IllegalStateException", Cond.methodLink RL 49 yX5_part, Cond.instanceMethod yX5_part, Cond.selects RX5 yX5_part yX5_part, Cond.initialized RX5, Cond.code yX5_part cX5_part 3 (some .int), Cond.fieldLink RX5 29 "TandemExchange" "history" "LTandemExchange$History;", Cond.fieldLink RX5 19 "TandemExchange" "circle" "LTandemExchange$Circle;", Cond.fieldLink RX5 143 "TandemExchange$Circle" "members" "[LTandemExchange$Member;", Cond.fieldLink RX5 179 "TandemExchange$Member" "partner" "I", Cond.methodLink RX5 106 yX5_requireMember, Cond.instanceMethod yX5_requireMember, Cond.selects RX5 yX5_requireMember yX5_requireMember, Cond.code yX5_requireMember cX5_requireMember 2 none, Cond.classLink RX5 255 "java/lang/IndexOutOfBoundsException", Cond.initialized "java/lang/IndexOutOfBoundsException", Cond.methodLink RX5 252 yX1_has, Cond.instanceMethod yX1_has, Cond.selects RX1 yX1_has yX1_has, Cond.initialized RX1, Cond.code yX1_has cX1_has 2 (some .boolean), Cond.fieldLink RX1 18 "TandemExchange$Circle" "size" "I", Cond.methodLink RX5 176 yX5_requirePartner]
def wsL_part_r2 : List Cond := [Cond.instanceMethod yX5_requirePartner, Cond.selects RX5 yX5_requirePartner yX5_requirePartner, Cond.code yX5_requirePartner cX5_requirePartner 2 none, Cond.classLink RX5 56 "java/lang/IllegalStateException", Cond.initialized "java/lang/IllegalStateException", Cond.methodLink RX5 205 yX1_isFree, Cond.instanceMethod yX1_isFree, Cond.selects RX1 yX1_isFree yX1_isFree, Cond.code yX1_isFree cX1_isFree 2 (some .boolean), Cond.fieldLink RX1 11 "TandemExchange$Circle" "members" "[LTandemExchange$Member;", Cond.fieldLink RX1 29 "TandemExchange$Member" "partner" "I", Cond.methodLink RX5 138 yX2_remember, Cond.instanceMethod yX2_remember, Cond.selects RX2 yX2_remember yX2_remember, Cond.initialized RX2, Cond.code yX2_remember cX2_remember 2 none, Cond.fieldLink RX2 18 "TandemExchange$History" "count" "I", Cond.fieldLink RX2 22 "TandemExchange$History" "oldest" "I", Cond.fieldLink RX2 11 "TandemExchange$History" "states" "[LTandemExchange$Circle;", Cond.methodLink RX2 25 yX1_copyFrom, Cond.instanceMethod yX1_copyFrom, Cond.selects RX1 yX1_copyFrom yX1_copyFrom, Cond.code yX1_copyFrom cX1_copyFrom 3 none, Cond.fieldLink RX1 26 "TandemExchange$Circle" "weeks" "I"]
def wsL_part_r3 : List Cond := [Cond.methodLink RX1 22 yX3_copyFrom, Cond.instanceMethod yX3_copyFrom, Cond.selects RX3 yX3_copyFrom yX3_copyFrom, Cond.initialized RX3, Cond.code yX3_copyFrom cX3_copyFrom 2 none, Cond.fieldLink RX3 9 "TandemExchange$Member" "levels" "[I", Cond.methodLink RX3 15 arraycopyName, Cond.native arraycopyName, Cond.static arraycopyName, Cond.initialized "java/lang/System", Cond.fieldLink RX3 21 "TandemExchange$Member" "wants" "I", Cond.fieldLink RX3 25 "TandemExchange$Member" "progress" "I", Cond.fieldLink RX3 28 "TandemExchange$Member" "credits" "I", Cond.fieldLink RX3 31 "TandemExchange$Member" "missed" "I", Cond.fieldLink RX3 34 "TandemExchange$Member" "partner" "I", Cond.fieldLink RX3 37 "TandemExchange$Member" "missedInRow" "I", Cond.methodLink RX5 182 yX1_separate, Cond.instanceMethod yX1_separate, Cond.selects RX1 yX1_separate yX1_separate, Cond.code yX1_separate cX1_separate 3 none, Cond.methodLink RX1 32 yX1_has]
def wsL_part : List Cond := .codeWith yL_part cL_part 4 (some .int) [(0, 9, 12, 28), (0, 9, 15, 15)] :: ((wsL_part_r1 ++ (wsL_part_r2 ++ wsL_part_r3)) ++ wsX50 ++ wsX10 ++ wsX30 ++ wsX20 ++ (vx_atS RX5 259 "java/lang/IndexOutOfBoundsException" ["java/lang/RuntimeException", "java/lang/Exception"]).filter goodWord ++ (vx_atS RX5 60 "java/lang/IllegalStateException" ["java/lang/RuntimeException", "java/lang/Exception"]).filter goodWord)
def wsL_settle_r1 : List Cond := [Cond.classLink RL 13 "java/lang/IllegalArgumentException", Cond.methodLink RL 52 yX5_settle, Cond.instanceMethod yX5_settle, Cond.selects RX5 yX5_settle yX5_settle, Cond.initialized RX5, Cond.code yX5_settle cX5_settle 2 (some .int), Cond.fieldLink RX5 29 "TandemExchange" "history" "LTandemExchange$History;", Cond.fieldLink RX5 19 "TandemExchange" "circle" "LTandemExchange$Circle;", Cond.methodLink RX5 48 yX5_requireRange, Cond.static yX5_requireRange, Cond.code yX5_requireRange cX5_requireRange 3 none, Cond.classLink RX5 101 "java/lang/IllegalArgumentException", Cond.initialized "java/lang/IllegalArgumentException", Cond.methodLink RX5 138 yX2_remember, Cond.instanceMethod yX2_remember, Cond.selects RX2 yX2_remember yX2_remember, Cond.initialized RX2, Cond.code yX2_remember cX2_remember 2 none, Cond.fieldLink RX2 18 "TandemExchange$History" "count" "I", Cond.fieldLink RX2 22 "TandemExchange$History" "oldest" "I", Cond.fieldLink RX2 11 "TandemExchange$History" "states" "[LTandemExchange$Circle;", Cond.methodLink RX2 25 yX1_copyFrom, Cond.instanceMethod yX1_copyFrom, Cond.selects RX1 yX1_copyFrom yX1_copyFrom]
def wsL_settle_r2 : List Cond := [Cond.initialized RX1, Cond.code yX1_copyFrom cX1_copyFrom 3 none, Cond.fieldLink RX1 18 "TandemExchange$Circle" "size" "I", Cond.fieldLink RX1 11 "TandemExchange$Circle" "members" "[LTandemExchange$Member;", Cond.fieldLink RX1 26 "TandemExchange$Circle" "weeks" "I", Cond.methodLink RX1 22 yX3_copyFrom, Cond.instanceMethod yX3_copyFrom, Cond.selects RX3 yX3_copyFrom yX3_copyFrom, Cond.initialized RX3, Cond.code yX3_copyFrom cX3_copyFrom 2 none, Cond.fieldLink RX3 9 "TandemExchange$Member" "levels" "[I", Cond.methodLink RX3 15 arraycopyName, Cond.native arraycopyName, Cond.static arraycopyName, Cond.initialized "java/lang/System", Cond.fieldLink RX3 21 "TandemExchange$Member" "wants" "I", Cond.fieldLink RX3 25 "TandemExchange$Member" "progress" "I", Cond.fieldLink RX3 28 "TandemExchange$Member" "credits" "I", Cond.fieldLink RX3 31 "TandemExchange$Member" "missed" "I", Cond.fieldLink RX3 34 "TandemExchange$Member" "partner" "I", Cond.fieldLink RX3 37 "TandemExchange$Member" "missedInRow" "I", Cond.methodLink RX5 188 yX1_settleBy, Cond.instanceMethod yX1_settleBy, Cond.selects RX1 yX1_settleBy yX1_settleBy]
def wsL_settle_r3 : List Cond := [Cond.code yX1_settleBy cX1_settleBy 3 (some .int), Cond.methodLink RX1 112 yX1_uniteFirstBlockingPair, Cond.instanceMethod yX1_uniteFirstBlockingPair, Cond.selects RX1 yX1_uniteFirstBlockingPair yX1_uniteFirstBlockingPair, Cond.code yX1_uniteFirstBlockingPair cX1_uniteFirstBlockingPair 3 (some .boolean), Cond.methodLink RX1 87 yX1_block, Cond.instanceMethod yX1_block, Cond.selects RX1 yX1_block yX1_block, Cond.code yX1_block cX1_block 3 (some .boolean), Cond.fieldLink RX1 29 "TandemExchange$Member" "partner" "I", Cond.methodLink RX1 74 yX1_fit, Cond.instanceMethod yX1_fit, Cond.selects RX1 yX1_fit yX1_fit, Cond.code yX1_fit cX1_fit 3 (some .boolean), Cond.methodLink RX1 62 yX1_lead, Cond.instanceMethod yX1_lead, Cond.selects RX1 yX1_lead yX1_lead, Cond.code yX1_lead cX1_lead 4 (some .int), Cond.fieldLink RX1 40 "TandemExchange$Member" "wants" "I", Cond.fieldLink RX1 36 "TandemExchange$Member" "levels" "[I", Cond.methodLink RX1 78 yX1_prefers, Cond.instanceMethod yX1_prefers, Cond.selects RX1 yX1_prefers yX1_prefers, Cond.code yX1_prefers cX1_prefers 4 (some .boolean)]
def wsL_settle_r4 : List Cond := [Cond.methodLink RX1 32 yX1_has, Cond.instanceMethod yX1_has, Cond.selects RX1 yX1_has yX1_has, Cond.code yX1_has cX1_has 2 (some .boolean), Cond.methodLink RX1 71 yX1_score, Cond.instanceMethod yX1_score, Cond.selects RX1 yX1_score yX1_score, Cond.code yX1_score cX1_score 4 (some .int), Cond.fieldLink RX1 49 "TandemExchange$Member" "missed" "I", Cond.fieldLink RX1 46 "TandemExchange$Member" "credits" "I", Cond.methodLink RX1 66 yJ9_floorDiv_7cf53, Cond.static yJ9_floorDiv_7cf53, Cond.initialized RJ9, Cond.code yJ9_floorDiv_7cf53 cJ9_floorDiv_7cf53 3 (some .int), Cond.methodLink RX1 94 yX1_separate, Cond.instanceMethod yX1_separate, Cond.selects RX1 yX1_separate yX1_separate, Cond.code yX1_separate cX1_separate 3 none, Cond.methodLink RX1 108 yX1_unite, Cond.instanceMethod yX1_unite, Cond.selects RX1 yX1_unite yX1_unite, Cond.code yX1_unite cX1_unite 3 none, Cond.fieldLink RX1 55 "TandemExchange$Member" "missedInRow" "I"]
def wsL_settle : List Cond := .codeWith yL_settle cL_settle 4 (some .int) [(0, 9, 12, 13)] :: ((wsL_settle_r1 ++ (wsL_settle_r2 ++ (wsL_settle_r3 ++ wsL_settle_r4))) ++ wsX50 ++ wsX20 ++ wsX10 ++ wsX30 ++ (vx_atS RX5 105 "java/lang/IllegalArgumentException" ["java/lang/RuntimeException", "java/lang/Exception"]).filter goodWord)
def wsL_week_r1 : List Cond := [Cond.classLink RL 13 "java/lang/IllegalArgumentException", Cond.methodLink RL 55 yX5_week, Cond.instanceMethod yX5_week, Cond.selects RX5 yX5_week yX5_week, Cond.initialized RX5, Cond.code yX5_week cX5_week 2 (some .int), Cond.fieldLink RX5 29 "TandemExchange" "history" "LTandemExchange$History;", Cond.fieldLink RX5 19 "TandemExchange" "circle" "LTandemExchange$Circle;", Cond.methodLink RX5 48 yX5_requireRange, Cond.static yX5_requireRange, Cond.code yX5_requireRange cX5_requireRange 3 none, Cond.classLink RX5 101 "java/lang/IllegalArgumentException", Cond.initialized "java/lang/IllegalArgumentException", Cond.methodLink RX5 138 yX2_remember, Cond.instanceMethod yX2_remember, Cond.selects RX2 yX2_remember yX2_remember, Cond.initialized RX2, Cond.code yX2_remember cX2_remember 2 none, Cond.fieldLink RX2 18 "TandemExchange$History" "count" "I", Cond.fieldLink RX2 22 "TandemExchange$History" "oldest" "I", Cond.fieldLink RX2 11 "TandemExchange$History" "states" "[LTandemExchange$Circle;", Cond.methodLink RX2 25 yX1_copyFrom, Cond.instanceMethod yX1_copyFrom, Cond.selects RX1 yX1_copyFrom yX1_copyFrom]
def wsL_week_r2 : List Cond := [Cond.initialized RX1, Cond.code yX1_copyFrom cX1_copyFrom 3 none, Cond.fieldLink RX1 18 "TandemExchange$Circle" "size" "I", Cond.fieldLink RX1 11 "TandemExchange$Circle" "members" "[LTandemExchange$Member;", Cond.fieldLink RX1 26 "TandemExchange$Circle" "weeks" "I", Cond.methodLink RX1 22 yX3_copyFrom, Cond.instanceMethod yX3_copyFrom, Cond.selects RX3 yX3_copyFrom yX3_copyFrom, Cond.initialized RX3, Cond.code yX3_copyFrom cX3_copyFrom 2 none, Cond.fieldLink RX3 9 "TandemExchange$Member" "levels" "[I", Cond.methodLink RX3 15 arraycopyName, Cond.native arraycopyName, Cond.static arraycopyName, Cond.initialized "java/lang/System", Cond.fieldLink RX3 21 "TandemExchange$Member" "wants" "I", Cond.fieldLink RX3 25 "TandemExchange$Member" "progress" "I", Cond.fieldLink RX3 28 "TandemExchange$Member" "credits" "I", Cond.fieldLink RX3 31 "TandemExchange$Member" "missed" "I", Cond.fieldLink RX3 34 "TandemExchange$Member" "partner" "I", Cond.fieldLink RX3 37 "TandemExchange$Member" "missedInRow" "I", Cond.methodLink RX5 192 yX1_passWeek, Cond.instanceMethod yX1_passWeek, Cond.selects RX1 yX1_passWeek yX1_passWeek]
def wsL_week_r3 : List Cond := [Cond.code yX1_passWeek cX1_passWeek 4 none, Cond.fieldLink RX1 55 "TandemExchange$Member" "missedInRow" "I", Cond.methodLink RX1 81 yX1_greaterPartner, Cond.instanceMethod yX1_greaterPartner, Cond.selects RX1 yX1_greaterPartner yX1_greaterPartner, Cond.code yX1_greaterPartner cX1_greaterPartner 3 (some .int), Cond.fieldLink RX1 29 "TandemExchange$Member" "partner" "I", Cond.methodLink RX1 32 yX1_has, Cond.instanceMethod yX1_has, Cond.selects RX1 yX1_has yX1_has, Cond.code yX1_has cX1_has 2 (some .boolean), Cond.methodLink RX1 115 yX1_passWeekOfPair, Cond.instanceMethod yX1_passWeekOfPair, Cond.selects RX1 yX1_passWeekOfPair yX1_passWeekOfPair, Cond.code yX1_passWeekOfPair cX1_passWeekOfPair 8 none, Cond.methodLink RX1 118 yX3_failToMeet, Cond.instanceMethod yX3_failToMeet, Cond.selects RX3 yX3_failToMeet yX3_failToMeet, Cond.code yX3_failToMeet cX3_failToMeet 2 none, Cond.methodLink RX3 49 yX3_gainCredits, Cond.instanceMethod yX3_gainCredits, Cond.selects RX3 yX3_gainCredits yX3_gainCredits, Cond.code yX3_gainCredits cX3_gainCredits 2 none, Cond.methodLink RX3 40 Lib.Math.min.name]
def wsL_week_r4 : List Cond := [Cond.static Lib.Math.min.name, Cond.initialized "java/lang/Math", Cond.code Lib.Math.min.name Lib.Math.min.code 2 (some .int), Cond.methodLink RX3 46 Lib.Math.max.name, Cond.static Lib.Math.max.name, Cond.code Lib.Math.max.name Lib.Math.max.code 2 (some .int), Cond.methodLink RX1 122 yX1_pointsOfMeeting, Cond.instanceMethod yX1_pointsOfMeeting, Cond.selects RX1 yX1_pointsOfMeeting yX1_pointsOfMeeting, Cond.code yX1_pointsOfMeeting cX1_pointsOfMeeting 3 (some .int), Cond.methodLink RX1 128 Lib.Math.max.name, Cond.methodLink RX1 62 yX1_lead, Cond.instanceMethod yX1_lead, Cond.selects RX1 yX1_lead yX1_lead, Cond.code yX1_lead cX1_lead 4 (some .int), Cond.fieldLink RX1 40 "TandemExchange$Member" "wants" "I", Cond.fieldLink RX1 36 "TandemExchange$Member" "levels" "[I", Cond.methodLink RX1 125 yX3_meet, Cond.instanceMethod yX3_meet, Cond.selects RX3 yX3_meet yX3_meet, Cond.code yX3_meet cX3_meet 2 none, Cond.methodLink RX3 53 yX3_learn, Cond.instanceMethod yX3_learn, Cond.selects RX3 yX3_learn yX3_learn]
def wsL_week_r5 : List Cond := [Cond.code yX3_learn cX3_learn 2 none, Cond.methodLink RX1 74 yX1_fit, Cond.instanceMethod yX1_fit, Cond.selects RX1 yX1_fit yX1_fit, Cond.code yX1_fit cX1_fit 3 (some .boolean), Cond.methodLink RX1 94 yX1_separate, Cond.instanceMethod yX1_separate, Cond.selects RX1 yX1_separate yX1_separate, Cond.code yX1_separate cX1_separate 3 none, Cond.methodLink RX5 83 yX1_countPairs, Cond.instanceMethod yX1_countPairs, Cond.selects RX1 yX1_countPairs yX1_countPairs, Cond.code yX1_countPairs cX1_countPairs 3 (some .int)]
def wsL_week : List Cond := .codeWith yL_week cL_week 4 (some .int) [(0, 9, 12, 13)] :: ((wsL_week_r1 ++ (wsL_week_r2 ++ (wsL_week_r3 ++ (wsL_week_r4 ++ wsL_week_r5)))) ++ wsX50 ++ wsX20 ++ wsX10 ++ wsX30 ++ (vx_atS RX5 105 "java/lang/IllegalArgumentException" ["java/lang/RuntimeException", "java/lang/Exception"]).filter goodWord)
def wsL_undo_r1 : List Cond := [Cond.classLink RL 15 "java/lang/IllegalStateException", Cond.methodLink RL 58 yX5_undo, Cond.instanceMethod yX5_undo, Cond.selects RX5 yX5_undo yX5_undo, Cond.initialized RX5, Cond.code yX5_undo cX5_undo 1 (some .int), Cond.classLink RX5 56 "java/lang/IllegalStateException", Cond.initialized "java/lang/IllegalStateException", Cond.fieldLink RX5 29 "TandemExchange" "history" "LTandemExchange$History;", Cond.fieldLink RX5 195 "TandemExchange$History" "count" "I", Cond.fieldLink RX5 19 "TandemExchange" "circle" "LTandemExchange$Circle;", Cond.methodLink RX5 200 yX2_takeBack, Cond.instanceMethod yX2_takeBack, Cond.selects RX2 yX2_takeBack yX2_takeBack, Cond.initialized RX2, Cond.code yX2_takeBack cX2_takeBack 2 none, Cond.fieldLink RX2 18 "TandemExchange$History" "count" "I", Cond.fieldLink RX2 11 "TandemExchange$History" "states" "[LTandemExchange$Circle;", Cond.fieldLink RX2 22 "TandemExchange$History" "oldest" "I", Cond.methodLink RX2 25 yX1_copyFrom, Cond.instanceMethod yX1_copyFrom, Cond.selects RX1 yX1_copyFrom yX1_copyFrom, Cond.initialized RX1, Cond.code yX1_copyFrom cX1_copyFrom 3 none]
def wsL_undo_r2 : List Cond := [Cond.fieldLink RX1 18 "TandemExchange$Circle" "size" "I", Cond.fieldLink RX1 11 "TandemExchange$Circle" "members" "[LTandemExchange$Member;", Cond.fieldLink RX1 26 "TandemExchange$Circle" "weeks" "I", Cond.methodLink RX1 22 yX3_copyFrom, Cond.instanceMethod yX3_copyFrom, Cond.selects RX3 yX3_copyFrom yX3_copyFrom, Cond.initialized RX3, Cond.code yX3_copyFrom cX3_copyFrom 2 none, Cond.fieldLink RX3 9 "TandemExchange$Member" "levels" "[I", Cond.methodLink RX3 15 arraycopyName, Cond.native arraycopyName, Cond.static arraycopyName, Cond.initialized "java/lang/System", Cond.fieldLink RX3 21 "TandemExchange$Member" "wants" "I", Cond.fieldLink RX3 25 "TandemExchange$Member" "progress" "I", Cond.fieldLink RX3 28 "TandemExchange$Member" "credits" "I", Cond.fieldLink RX3 31 "TandemExchange$Member" "missed" "I", Cond.fieldLink RX3 34 "TandemExchange$Member" "partner" "I", Cond.fieldLink RX3 37 "TandemExchange$Member" "missedInRow" "I"]
def wsL_undo : List Cond := .codeWith yL_undo cL_undo 3 (some .int) [(0, 8, 11, 15)] :: ((wsL_undo_r1 ++ wsL_undo_r2) ++ wsX50 ++ wsX20 ++ wsX10 ++ wsX30 ++ (vx_atS RX5 60 "java/lang/IllegalStateException" ["java/lang/RuntimeException", "java/lang/Exception"]).filter goodWord)
def wsL_blocking_r1 : List Cond := [Cond.classLink RL 13 "java/lang/IllegalArgumentException", Cond.methodLink RL 61 yX5_blocking, Cond.instanceMethod yX5_blocking, Cond.selects RX5 yX5_blocking yX5_blocking, Cond.initialized RX5, Cond.code yX5_blocking cX5_blocking 6 (some .int), Cond.classLink RX5 101 "java/lang/IllegalArgumentException", Cond.initialized "java/lang/IllegalArgumentException", Cond.fieldLink RX5 19 "TandemExchange" "circle" "LTandemExchange$Circle;", Cond.fieldLink RX5 80 "TandemExchange$Circle" "size" "I", Cond.methodLink RX5 128 yX1_block, Cond.instanceMethod yX1_block, Cond.selects RX1 yX1_block yX1_block, Cond.initialized RX1, Cond.code yX1_block cX1_block 3 (some .boolean), Cond.fieldLink RX1 11 "TandemExchange$Circle" "members" "[LTandemExchange$Member;", Cond.fieldLink RX1 29 "TandemExchange$Member" "partner" "I", Cond.methodLink RX1 74 yX1_fit, Cond.instanceMethod yX1_fit, Cond.selects RX1 yX1_fit yX1_fit, Cond.code yX1_fit cX1_fit 3 (some .boolean), Cond.methodLink RX1 62 yX1_lead, Cond.instanceMethod yX1_lead, Cond.selects RX1 yX1_lead yX1_lead]
def wsL_blocking_r2 : List Cond := [Cond.code yX1_lead cX1_lead 4 (some .int), Cond.fieldLink RX1 40 "TandemExchange$Member" "wants" "I", Cond.fieldLink RX1 36 "TandemExchange$Member" "levels" "[I", Cond.methodLink RX1 78 yX1_prefers, Cond.instanceMethod yX1_prefers, Cond.selects RX1 yX1_prefers yX1_prefers, Cond.code yX1_prefers cX1_prefers 4 (some .boolean), Cond.methodLink RX1 32 yX1_has, Cond.instanceMethod yX1_has, Cond.selects RX1 yX1_has yX1_has, Cond.code yX1_has cX1_has 2 (some .boolean), Cond.fieldLink RX1 18 "TandemExchange$Circle" "size" "I", Cond.methodLink RX1 71 yX1_score, Cond.instanceMethod yX1_score, Cond.selects RX1 yX1_score yX1_score, Cond.code yX1_score cX1_score 4 (some .int), Cond.fieldLink RX1 49 "TandemExchange$Member" "missed" "I", Cond.fieldLink RX1 46 "TandemExchange$Member" "credits" "I", Cond.methodLink RX1 66 yJ9_floorDiv_7cf53, Cond.static yJ9_floorDiv_7cf53, Cond.initialized RJ9, Cond.code yJ9_floorDiv_7cf53 cJ9_floorDiv_7cf53 3 (some .int)]
def wsL_blocking : List Cond := .codeWith yL_blocking cL_blocking 5 (some .int) [(0, 10, 13, 13)] :: ((wsL_blocking_r1 ++ wsL_blocking_r2) ++ wsX50 ++ wsX10 ++ wsX30 ++ (vx_atS RX5 105 "java/lang/IllegalArgumentException" ["java/lang/RuntimeException", "java/lang/Exception"]).filter goodWord)
def wsL_bestPartner_r1 : List Cond := [Cond.classLink RL 28 "java/lang/IndexOutOfBoundsException", Cond.methodLink RL 65 yX5_bestPartner, Cond.instanceMethod yX5_bestPartner, Cond.selects RX5 yX5_bestPartner yX5_bestPartner, Cond.initialized RX5, Cond.code yX5_bestPartner cX5_bestPartner 7 (some .int), Cond.fieldLink RX5 19 "TandemExchange" "circle" "LTandemExchange$Circle;", Cond.fieldLink RX5 80 "TandemExchange$Circle" "size" "I", Cond.methodLink RX5 106 yX5_requireMember, Cond.instanceMethod yX5_requireMember, Cond.selects RX5 yX5_requireMember yX5_requireMember, Cond.code yX5_requireMember cX5_requireMember 2 none, Cond.classLink RX5 255 "java/lang/IndexOutOfBoundsException", Cond.initialized "java/lang/IndexOutOfBoundsException", Cond.methodLink RX5 252 yX1_has, Cond.instanceMethod yX1_has, Cond.selects RX1 yX1_has yX1_has, Cond.initialized RX1, Cond.code yX1_has cX1_has 2 (some .boolean), Cond.fieldLink RX1 18 "TandemExchange$Circle" "size" "I", Cond.methodLink RX5 124 yX1_fit, Cond.instanceMethod yX1_fit, Cond.selects RX1 yX1_fit yX1_fit, Cond.code yX1_fit cX1_fit 3 (some .boolean)]
def wsL_bestPartner_r2 : List Cond := [Cond.methodLink RX1 62 yX1_lead, Cond.instanceMethod yX1_lead, Cond.selects RX1 yX1_lead yX1_lead, Cond.code yX1_lead cX1_lead 4 (some .int), Cond.fieldLink RX1 11 "TandemExchange$Circle" "members" "[LTandemExchange$Member;", Cond.fieldLink RX1 40 "TandemExchange$Member" "wants" "I", Cond.fieldLink RX1 36 "TandemExchange$Member" "levels" "[I", Cond.methodLink RX5 205 yX1_isFree, Cond.instanceMethod yX1_isFree, Cond.selects RX1 yX1_isFree yX1_isFree, Cond.code yX1_isFree cX1_isFree 2 (some .boolean), Cond.fieldLink RX1 29 "TandemExchange$Member" "partner" "I", Cond.methodLink RX5 118 yX1_score, Cond.instanceMethod yX1_score, Cond.selects RX1 yX1_score yX1_score, Cond.code yX1_score cX1_score 4 (some .int), Cond.fieldLink RX1 49 "TandemExchange$Member" "missed" "I", Cond.fieldLink RX1 46 "TandemExchange$Member" "credits" "I", Cond.methodLink RX1 66 yJ9_floorDiv_7cf53, Cond.static yJ9_floorDiv_7cf53, Cond.initialized RJ9, Cond.code yJ9_floorDiv_7cf53 cJ9_floorDiv_7cf53 3 (some .int)]
def wsL_bestPartner : List Cond := .codeWith yL_bestPartner cL_bestPartner 5 (some .int) [(0, 10, 13, 28)] :: ((wsL_bestPartner_r1 ++ wsL_bestPartner_r2) ++ wsX50 ++ wsX10 ++ wsX30 ++ (vx_atS RX5 259 "java/lang/IndexOutOfBoundsException" ["java/lang/RuntimeException", "java/lang/Exception"]).filter goodWord)
def wsL_best_r1 : List Cond := [Cond.classLink RL 13 "java/lang/IllegalArgumentException", Cond.methodLink RL 68 yX5_best, Cond.instanceMethod yX5_best, Cond.selects RX5 yX5_best yX5_best, Cond.initialized RX5, Cond.code yX5_best cX5_best 3 (some .int), Cond.fieldLink RX5 44 "TandemExchange" "bestMatching" "LTandemExchange$BestMatching;", Cond.fieldLink RX5 19 "TandemExchange" "circle" "LTandemExchange$Circle;", Cond.methodLink RX5 48 yX5_requireRange, Cond.static yX5_requireRange, Cond.code yX5_requireRange cX5_requireRange 3 none, Cond.classLink RX5 101 "java/lang/IllegalArgumentException", Cond.initialized "java/lang/IllegalArgumentException", Cond.methodLink RX5 209 yX0_fill, Cond.instanceMethod yX0_fill, Cond.selects RX0 yX0_fill yX0_fill, Cond.initialized RX0, Cond.code yX0_fill cX0_fill 5 none, Cond.fieldLink RX0 9 "TandemExchange$BestMatching" "ranks" "[I", Cond.fieldLink RX0 15 "TandemExchange$Circle" "size" "I", Cond.methodLink RX0 21 yX0_rankWith, Cond.instanceMethod yX0_rankWith, Cond.selects RX0 yX0_rankWith yX0_rankWith, Cond.code yX0_rankWith cX0_rankWith 7 (some .int)]
def wsL_best_r2 : List Cond := [Cond.constant RX0 29 (1000000), Cond.methodLink RX0 34 Lib.Math.max.name, Cond.static Lib.Math.max.name, Cond.initialized "java/lang/Math", Cond.code Lib.Math.max.name Lib.Math.max.code 2 (some .int), Cond.methodLink RX0 25 yX1_fit, Cond.instanceMethod yX1_fit, Cond.selects RX1 yX1_fit yX1_fit, Cond.initialized RX1, Cond.code yX1_fit cX1_fit 3 (some .boolean), Cond.methodLink RX1 62 yX1_lead, Cond.instanceMethod yX1_lead, Cond.selects RX1 yX1_lead yX1_lead, Cond.code yX1_lead cX1_lead 4 (some .int), Cond.fieldLink RX1 11 "TandemExchange$Circle" "members" "[LTandemExchange$Member;", Cond.fieldLink RX1 40 "TandemExchange$Member" "wants" "I", Cond.fieldLink RX1 36 "TandemExchange$Member" "levels" "[I", Cond.methodLink RX0 30 yX1_value, Cond.instanceMethod yX1_value, Cond.selects RX1 yX1_value yX1_value, Cond.code yX1_value cX1_value 3 (some .int), Cond.methodLink RX1 71 yX1_score, Cond.instanceMethod yX1_score, Cond.selects RX1 yX1_score yX1_score]
def wsL_best_r3 : List Cond := [Cond.code yX1_score cX1_score 4 (some .int), Cond.fieldLink RX1 49 "TandemExchange$Member" "missed" "I", Cond.fieldLink RX1 46 "TandemExchange$Member" "credits" "I", Cond.methodLink RX1 66 yJ9_floorDiv_7cf53, Cond.static yJ9_floorDiv_7cf53, Cond.initialized RJ9, Cond.code yJ9_floorDiv_7cf53 cJ9_floorDiv_7cf53 3 (some .int), Cond.methodLink RX5 212 yX0_rankOfAll, Cond.instanceMethod yX0_rankOfAll, Cond.selects RX0 yX0_rankOfAll yX0_rankOfAll, Cond.code yX0_rankOfAll cX0_rankOfAll 2 (some .int), Cond.methodLink RX5 216 yX0_pairsOf, Cond.instanceMethod yX0_pairsOf, Cond.selects RX0 yX0_pairsOf yX0_pairsOf, Cond.code yX0_pairsOf cX0_pairsOf 2 (some .int), Cond.constant RX0 39 (500000), Cond.methodLink RX0 40 yJ9_floorDiv_7cf53, Cond.methodLink RX5 219 yX0_sumOf, Cond.instanceMethod yX0_sumOf, Cond.selects RX0 yX0_sumOf yX0_sumOf, Cond.code yX0_sumOf cX0_sumOf 2 (some .int), Cond.methodLink RX0 43 yX0_pairsOf]
def wsL_best : List Cond := .codeWith yL_best cL_best 4 (some .int) [(0, 9, 12, 13)] :: ((wsL_best_r1 ++ (wsL_best_r2 ++ wsL_best_r3)) ++ wsX50 ++ wsX00 ++ wsX10 ++ wsX30 ++ (vx_atS RX5 105 "java/lang/IllegalArgumentException" ["java/lang/RuntimeException", "java/lang/Exception"]).filter goodWord)
def wsL_ahead_r1 : List Cond := [Cond.classLink RL 28 "java/lang/IndexOutOfBoundsException", Cond.classLink RL 13 "java/lang/IllegalArgumentException", Cond.methodLink RL 71 yX5_ahead, Cond.instanceMethod yX5_ahead, Cond.selects RX5 yX5_ahead yX5_ahead, Cond.initialized RX5, Cond.code yX5_ahead cX5_ahead 6 (some .int), Cond.fieldLink RX5 23 "TandemExchange" "trial" "LTandemExchange$Circle;", Cond.fieldLink RX5 19 "TandemExchange" "circle" "LTandemExchange$Circle;", Cond.methodLink RX5 106 yX5_requireMember, Cond.instanceMethod yX5_requireMember, Cond.selects RX5 yX5_requireMember yX5_requireMember, Cond.code yX5_requireMember cX5_requireMember 2 none, Cond.classLink RX5 255 "java/lang/IndexOutOfBoundsException", Cond.initialized "java/lang/IndexOutOfBoundsException", Cond.methodLink RX5 252 yX1_has, Cond.instanceMethod yX1_has, Cond.selects RX1 yX1_has yX1_has, Cond.initialized RX1, Cond.code yX1_has cX1_has 2 (some .boolean), Cond.fieldLink RX1 18 "TandemExchange$Circle" "size" "I", Cond.methodLink RX5 48 yX5_requireRange, Cond.static yX5_requireRange, Cond.code yX5_requireRange cX5_requireRange 3 none]
def wsL_ahead_r2 : List Cond := [Cond.classLink RX5 101 "java/lang/IllegalArgumentException", Cond.initialized "java/lang/IllegalArgumentException", Cond.methodLink RX5 226 yX1_copyFrom, Cond.instanceMethod yX1_copyFrom, Cond.selects RX1 yX1_copyFrom yX1_copyFrom, Cond.code yX1_copyFrom cX1_copyFrom 3 none, Cond.fieldLink RX1 11 "TandemExchange$Circle" "members" "[LTandemExchange$Member;", Cond.fieldLink RX1 26 "TandemExchange$Circle" "weeks" "I", Cond.methodLink RX1 22 yX3_copyFrom, Cond.instanceMethod yX3_copyFrom, Cond.selects RX3 yX3_copyFrom yX3_copyFrom, Cond.initialized RX3, Cond.code yX3_copyFrom cX3_copyFrom 2 none, Cond.fieldLink RX3 9 "TandemExchange$Member" "levels" "[I", Cond.methodLink RX3 15 arraycopyName, Cond.native arraycopyName, Cond.static arraycopyName, Cond.initialized "java/lang/System", Cond.fieldLink RX3 21 "TandemExchange$Member" "wants" "I", Cond.fieldLink RX3 25 "TandemExchange$Member" "progress" "I", Cond.fieldLink RX3 28 "TandemExchange$Member" "credits" "I", Cond.fieldLink RX3 31 "TandemExchange$Member" "missed" "I", Cond.fieldLink RX3 34 "TandemExchange$Member" "partner" "I", Cond.fieldLink RX3 37 "TandemExchange$Member" "missedInRow" "I"]
def wsL_ahead_r3 : List Cond := [Cond.methodLink RX5 192 yX1_passWeek, Cond.instanceMethod yX1_passWeek, Cond.selects RX1 yX1_passWeek yX1_passWeek, Cond.code yX1_passWeek cX1_passWeek 4 none, Cond.fieldLink RX1 55 "TandemExchange$Member" "missedInRow" "I", Cond.methodLink RX1 81 yX1_greaterPartner, Cond.instanceMethod yX1_greaterPartner, Cond.selects RX1 yX1_greaterPartner yX1_greaterPartner, Cond.code yX1_greaterPartner cX1_greaterPartner 3 (some .int), Cond.fieldLink RX1 29 "TandemExchange$Member" "partner" "I", Cond.methodLink RX1 32 yX1_has, Cond.methodLink RX1 115 yX1_passWeekOfPair, Cond.instanceMethod yX1_passWeekOfPair, Cond.selects RX1 yX1_passWeekOfPair yX1_passWeekOfPair, Cond.code yX1_passWeekOfPair cX1_passWeekOfPair 8 none, Cond.methodLink RX1 118 yX3_failToMeet, Cond.instanceMethod yX3_failToMeet, Cond.selects RX3 yX3_failToMeet yX3_failToMeet, Cond.code yX3_failToMeet cX3_failToMeet 2 none, Cond.methodLink RX3 49 yX3_gainCredits, Cond.instanceMethod yX3_gainCredits, Cond.selects RX3 yX3_gainCredits yX3_gainCredits, Cond.code yX3_gainCredits cX3_gainCredits 2 none, Cond.methodLink RX3 40 Lib.Math.min.name]
def wsL_ahead_r4 : List Cond := [Cond.static Lib.Math.min.name, Cond.initialized "java/lang/Math", Cond.code Lib.Math.min.name Lib.Math.min.code 2 (some .int), Cond.methodLink RX3 46 Lib.Math.max.name, Cond.static Lib.Math.max.name, Cond.code Lib.Math.max.name Lib.Math.max.code 2 (some .int), Cond.methodLink RX1 122 yX1_pointsOfMeeting, Cond.instanceMethod yX1_pointsOfMeeting, Cond.selects RX1 yX1_pointsOfMeeting yX1_pointsOfMeeting, Cond.code yX1_pointsOfMeeting cX1_pointsOfMeeting 3 (some .int), Cond.methodLink RX1 128 Lib.Math.max.name, Cond.methodLink RX1 62 yX1_lead, Cond.instanceMethod yX1_lead, Cond.selects RX1 yX1_lead yX1_lead, Cond.code yX1_lead cX1_lead 4 (some .int), Cond.fieldLink RX1 40 "TandemExchange$Member" "wants" "I", Cond.fieldLink RX1 36 "TandemExchange$Member" "levels" "[I", Cond.methodLink RX1 125 yX3_meet, Cond.instanceMethod yX3_meet, Cond.selects RX3 yX3_meet yX3_meet, Cond.code yX3_meet cX3_meet 2 none, Cond.methodLink RX3 53 yX3_learn, Cond.instanceMethod yX3_learn, Cond.selects RX3 yX3_learn yX3_learn]
def wsL_ahead_r5 : List Cond := [Cond.code yX3_learn cX3_learn 2 none, Cond.methodLink RX1 74 yX1_fit, Cond.instanceMethod yX1_fit, Cond.selects RX1 yX1_fit yX1_fit, Cond.code yX1_fit cX1_fit 3 (some .boolean), Cond.methodLink RX1 94 yX1_separate, Cond.instanceMethod yX1_separate, Cond.selects RX1 yX1_separate yX1_separate, Cond.code yX1_separate cX1_separate 3 none, Cond.methodLink RX5 110 yX1_numberOf, Cond.instanceMethod yX1_numberOf, Cond.selects RX1 yX1_numberOf yX1_numberOf, Cond.code yX1_numberOf cX1_numberOf 4 (some .int), Cond.fieldLink RX1 43 "TandemExchange$Member" "progress" "I", Cond.fieldLink RX1 46 "TandemExchange$Member" "credits" "I", Cond.fieldLink RX1 49 "TandemExchange$Member" "missed" "I", Cond.methodLink RX1 52 yX1_isFree, Cond.instanceMethod yX1_isFree, Cond.selects RX1 yX1_isFree yX1_isFree, Cond.code yX1_isFree cX1_isFree 2 (some .boolean), Cond.methodLink RX1 58 yX1_countFittingWith, Cond.instanceMethod yX1_countFittingWith, Cond.selects RX1 yX1_countFittingWith yX1_countFittingWith, Cond.code yX1_countFittingWith cX1_countFittingWith 4 (some .int)]
def wsL_ahead : List Cond := .codeWith yL_ahead cL_ahead 7 (some .int) [(0, 14, 17, 28), (0, 14, 21, 13)] :: ((wsL_ahead_r1 ++ (wsL_ahead_r2 ++ (wsL_ahead_r3 ++ (wsL_ahead_r4 ++ wsL_ahead_r5)))) ++ wsX50 ++ wsX10 ++ wsX30 ++ (vx_atS RX5 259 "java/lang/IndexOutOfBoundsException" ["java/lang/RuntimeException", "java/lang/Exception"]).filter goodWord ++ (vx_atS RX5 105 "java/lang/IllegalArgumentException" ["java/lang/RuntimeException", "java/lang/Exception"]).filter goodWord)
def wsL_levelAfter_r1 : List Cond := [Cond.classLink RL 28 "java/lang/IndexOutOfBoundsException", Cond.classLink RL 13 "java/lang/IllegalArgumentException", Cond.methodLink RL 75 yX5_levelAfter, Cond.instanceMethod yX5_levelAfter, Cond.selects RX5 yX5_levelAfter yX5_levelAfter, Cond.initialized RX5, Cond.code yX5_levelAfter cX5_levelAfter 4 (some .int), Cond.fieldLink RX5 23 "TandemExchange" "trial" "LTandemExchange$Circle;", Cond.fieldLink RX5 19 "TandemExchange" "circle" "LTandemExchange$Circle;", Cond.fieldLink RX5 143 "TandemExchange$Circle" "members" "[LTandemExchange$Member;", Cond.methodLink RX5 106 yX5_requireMember, Cond.instanceMethod yX5_requireMember, Cond.selects RX5 yX5_requireMember yX5_requireMember, Cond.code yX5_requireMember cX5_requireMember 2 none, Cond.classLink RX5 255 "java/lang/IndexOutOfBoundsException", Cond.initialized "java/lang/IndexOutOfBoundsException", Cond.methodLink RX5 252 yX1_has, Cond.instanceMethod yX1_has, Cond.selects RX1 yX1_has yX1_has, Cond.initialized RX1, Cond.code yX1_has cX1_has 2 (some .boolean), Cond.fieldLink RX1 18 "TandemExchange$Circle" "size" "I", Cond.methodLink RX5 48 yX5_requireRange, Cond.static yX5_requireRange]
def wsL_levelAfter_r2 : List Cond := [Cond.code yX5_requireRange cX5_requireRange 3 none, Cond.classLink RX5 101 "java/lang/IllegalArgumentException", Cond.initialized "java/lang/IllegalArgumentException", Cond.methodLink RX5 226 yX1_copyFrom, Cond.instanceMethod yX1_copyFrom, Cond.selects RX1 yX1_copyFrom yX1_copyFrom, Cond.code yX1_copyFrom cX1_copyFrom 3 none, Cond.fieldLink RX1 11 "TandemExchange$Circle" "members" "[LTandemExchange$Member;", Cond.fieldLink RX1 26 "TandemExchange$Circle" "weeks" "I", Cond.methodLink RX1 22 yX3_copyFrom, Cond.instanceMethod yX3_copyFrom, Cond.selects RX3 yX3_copyFrom yX3_copyFrom, Cond.initialized RX3, Cond.code yX3_copyFrom cX3_copyFrom 2 none, Cond.fieldLink RX3 9 "TandemExchange$Member" "levels" "[I", Cond.methodLink RX3 15 arraycopyName, Cond.native arraycopyName, Cond.static arraycopyName, Cond.initialized "java/lang/System", Cond.fieldLink RX3 21 "TandemExchange$Member" "wants" "I", Cond.fieldLink RX3 25 "TandemExchange$Member" "progress" "I", Cond.fieldLink RX3 28 "TandemExchange$Member" "credits" "I", Cond.fieldLink RX3 31 "TandemExchange$Member" "missed" "I", Cond.fieldLink RX3 34 "TandemExchange$Member" "partner" "I"]
def wsL_levelAfter_r3 : List Cond := [Cond.fieldLink RX3 37 "TandemExchange$Member" "missedInRow" "I", Cond.methodLink RX5 229 yX3_wantedLevel, Cond.instanceMethod yX3_wantedLevel, Cond.selects RX3 yX3_wantedLevel yX3_wantedLevel, Cond.code yX3_wantedLevel cX3_wantedLevel 1 (some .int), Cond.methodLink RX5 185 yX1_matchFree, Cond.instanceMethod yX1_matchFree, Cond.selects RX1 yX1_matchFree yX1_matchFree, Cond.code yX1_matchFree cX1_matchFree 2 (some .int), Cond.methodLink RX1 101 yX1_uniteBestFreePair, Cond.instanceMethod yX1_uniteBestFreePair, Cond.selects RX1 yX1_uniteBestFreePair yX1_uniteBestFreePair, Cond.code yX1_uniteBestFreePair cX1_uniteBestFreePair 6 (some .boolean), Cond.methodLink RX1 105 yX1_canBecomePartners, Cond.instanceMethod yX1_canBecomePartners, Cond.selects RX1 yX1_canBecomePartners yX1_canBecomePartners, Cond.code yX1_canBecomePartners cX1_canBecomePartners 3 (some .boolean), Cond.methodLink RX1 52 yX1_isFree, Cond.instanceMethod yX1_isFree, Cond.selects RX1 yX1_isFree yX1_isFree, Cond.code yX1_isFree cX1_isFree 2 (some .boolean), Cond.fieldLink RX1 29 "TandemExchange$Member" "partner" "I", Cond.methodLink RX1 74 yX1_fit, Cond.instanceMethod yX1_fit]
def wsL_levelAfter_r4 : List Cond := [Cond.selects RX1 yX1_fit yX1_fit, Cond.code yX1_fit cX1_fit 3 (some .boolean), Cond.methodLink RX1 62 yX1_lead, Cond.instanceMethod yX1_lead, Cond.selects RX1 yX1_lead yX1_lead, Cond.code yX1_lead cX1_lead 4 (some .int), Cond.fieldLink RX1 40 "TandemExchange$Member" "wants" "I", Cond.fieldLink RX1 36 "TandemExchange$Member" "levels" "[I", Cond.methodLink RX1 84 yX1_value, Cond.instanceMethod yX1_value, Cond.selects RX1 yX1_value yX1_value, Cond.code yX1_value cX1_value 3 (some .int), Cond.methodLink RX1 71 yX1_score, Cond.instanceMethod yX1_score, Cond.selects RX1 yX1_score yX1_score, Cond.code yX1_score cX1_score 4 (some .int), Cond.fieldLink RX1 49 "TandemExchange$Member" "missed" "I", Cond.fieldLink RX1 46 "TandemExchange$Member" "credits" "I", Cond.methodLink RX1 66 yJ9_floorDiv_7cf53, Cond.static yJ9_floorDiv_7cf53, Cond.initialized RJ9, Cond.code yJ9_floorDiv_7cf53 cJ9_floorDiv_7cf53 3 (some .int), Cond.methodLink RX1 32 yX1_has, Cond.methodLink RX1 108 yX1_unite]
def wsL_levelAfter_r5 : List Cond := [Cond.instanceMethod yX1_unite, Cond.selects RX1 yX1_unite yX1_unite, Cond.code yX1_unite cX1_unite 3 none, Cond.fieldLink RX1 55 "TandemExchange$Member" "missedInRow" "I", Cond.methodLink RX5 192 yX1_passWeek, Cond.instanceMethod yX1_passWeek, Cond.selects RX1 yX1_passWeek yX1_passWeek, Cond.code yX1_passWeek cX1_passWeek 4 none, Cond.methodLink RX1 81 yX1_greaterPartner, Cond.instanceMethod yX1_greaterPartner, Cond.selects RX1 yX1_greaterPartner yX1_greaterPartner, Cond.code yX1_greaterPartner cX1_greaterPartner 3 (some .int), Cond.methodLink RX1 115 yX1_passWeekOfPair, Cond.instanceMethod yX1_passWeekOfPair, Cond.selects RX1 yX1_passWeekOfPair yX1_passWeekOfPair, Cond.code yX1_passWeekOfPair cX1_passWeekOfPair 8 none, Cond.methodLink RX1 118 yX3_failToMeet, Cond.instanceMethod yX3_failToMeet, Cond.selects RX3 yX3_failToMeet yX3_failToMeet, Cond.code yX3_failToMeet cX3_failToMeet 2 none, Cond.methodLink RX3 49 yX3_gainCredits, Cond.instanceMethod yX3_gainCredits, Cond.selects RX3 yX3_gainCredits yX3_gainCredits, Cond.code yX3_gainCredits cX3_gainCredits 2 none]
def wsL_levelAfter_r6 : List Cond := [Cond.methodLink RX3 40 Lib.Math.min.name, Cond.static Lib.Math.min.name, Cond.initialized "java/lang/Math", Cond.code Lib.Math.min.name Lib.Math.min.code 2 (some .int), Cond.methodLink RX3 46 Lib.Math.max.name, Cond.static Lib.Math.max.name, Cond.code Lib.Math.max.name Lib.Math.max.code 2 (some .int), Cond.methodLink RX1 122 yX1_pointsOfMeeting, Cond.instanceMethod yX1_pointsOfMeeting, Cond.selects RX1 yX1_pointsOfMeeting yX1_pointsOfMeeting, Cond.code yX1_pointsOfMeeting cX1_pointsOfMeeting 3 (some .int), Cond.methodLink RX1 128 Lib.Math.max.name, Cond.methodLink RX1 125 yX3_meet, Cond.instanceMethod yX3_meet, Cond.selects RX3 yX3_meet yX3_meet, Cond.code yX3_meet cX3_meet 2 none, Cond.methodLink RX3 53 yX3_learn, Cond.instanceMethod yX3_learn, Cond.selects RX3 yX3_learn yX3_learn, Cond.code yX3_learn cX3_learn 2 none, Cond.methodLink RX1 94 yX1_separate, Cond.instanceMethod yX1_separate, Cond.selects RX1 yX1_separate yX1_separate, Cond.code yX1_separate cX1_separate 3 none]
def wsL_levelAfter : List Cond := .codeWith yL_levelAfter cL_levelAfter 5 (some .int) [(0, 10, 13, 28), (0, 10, 17, 13)] :: ((wsL_levelAfter_r1 ++ (wsL_levelAfter_r2 ++ (wsL_levelAfter_r3 ++ (wsL_levelAfter_r4 ++ (wsL_levelAfter_r5 ++ wsL_levelAfter_r6))))) ++ wsX50 ++ wsX10 ++ wsX30 ++ (vx_atS RX5 259 "java/lang/IndexOutOfBoundsException" ["java/lang/RuntimeException", "java/lang/Exception"]).filter goodWord ++ (vx_atS RX5 105 "java/lang/IllegalArgumentException" ["java/lang/RuntimeException", "java/lang/Exception"]).filter goodWord)
def wsL_partsAfter_r1 : List Cond := [Cond.classLink RL 28 "java/lang/IndexOutOfBoundsException", Cond.classLink RL 13 "java/lang/IllegalArgumentException", Cond.classLink RL 15 "java/lang/IllegalStateException", Cond.methodLink RL 78 yX5_partsAfter, Cond.instanceMethod yX5_partsAfter, Cond.selects RX5 yX5_partsAfter yX5_partsAfter, Cond.initialized RX5, Cond.code yX5_partsAfter cX5_partsAfter 4 (some .int), Cond.fieldLink RX5 23 "TandemExchange" "trial" "LTandemExchange$Circle;", Cond.fieldLink RX5 19 "TandemExchange" "circle" "LTandemExchange$Circle;", Cond.methodLink RX5 106 yX5_requireMember, Cond.instanceMethod yX5_requireMember, Cond.selects RX5 yX5_requireMember yX5_requireMember, Cond.code yX5_requireMember cX5_requireMember 2 none, Cond.classLink RX5 255 "java/lang/IndexOutOfBoundsException", Cond.initialized "java/lang/IndexOutOfBoundsException", Cond.methodLink RX5 252 yX1_has, Cond.instanceMethod yX1_has, Cond.selects RX1 yX1_has yX1_has, Cond.initialized RX1, Cond.code yX1_has cX1_has 2 (some .boolean), Cond.fieldLink RX1 18 "TandemExchange$Circle" "size" "I", Cond.methodLink RX5 48 yX5_requireRange, Cond.static yX5_requireRange]
def wsL_partsAfter_r2 : List Cond := [Cond.code yX5_requireRange cX5_requireRange 3 none, Cond.classLink RX5 101 "java/lang/IllegalArgumentException", Cond.initialized "java/lang/IllegalArgumentException", Cond.methodLink RX5 176 yX5_requirePartner, Cond.instanceMethod yX5_requirePartner, Cond.selects RX5 yX5_requirePartner yX5_requirePartner, Cond.code yX5_requirePartner cX5_requirePartner 2 none, Cond.classLink RX5 56 "java/lang/IllegalStateException", Cond.initialized "java/lang/IllegalStateException", Cond.methodLink RX5 205 yX1_isFree, Cond.instanceMethod yX1_isFree, Cond.selects RX1 yX1_isFree yX1_isFree, Cond.code yX1_isFree cX1_isFree 2 (some .boolean), Cond.fieldLink RX1 11 "TandemExchange$Circle" "members" "[LTandemExchange$Member;", Cond.fieldLink RX1 29 "TandemExchange$Member" "partner" "I", Cond.methodLink RX5 226 yX1_copyFrom, Cond.instanceMethod yX1_copyFrom, Cond.selects RX1 yX1_copyFrom yX1_copyFrom, Cond.code yX1_copyFrom cX1_copyFrom 3 none, Cond.fieldLink RX1 26 "TandemExchange$Circle" "weeks" "I", Cond.methodLink RX1 22 yX3_copyFrom, Cond.instanceMethod yX3_copyFrom, Cond.selects RX3 yX3_copyFrom yX3_copyFrom, Cond.initialized RX3]
def wsL_partsAfter_r3 : List Cond := [Cond.code yX3_copyFrom cX3_copyFrom 2 none, Cond.fieldLink RX3 9 "TandemExchange$Member" "levels" "[I", Cond.methodLink RX3 15 arraycopyName, Cond.native arraycopyName, Cond.static arraycopyName, Cond.initialized "java/lang/System", Cond.fieldLink RX3 21 "TandemExchange$Member" "wants" "I", Cond.fieldLink RX3 25 "TandemExchange$Member" "progress" "I", Cond.fieldLink RX3 28 "TandemExchange$Member" "credits" "I", Cond.fieldLink RX3 31 "TandemExchange$Member" "missed" "I", Cond.fieldLink RX3 34 "TandemExchange$Member" "partner" "I", Cond.fieldLink RX3 37 "TandemExchange$Member" "missedInRow" "I", Cond.methodLink RX5 192 yX1_passWeek, Cond.instanceMethod yX1_passWeek, Cond.selects RX1 yX1_passWeek yX1_passWeek, Cond.code yX1_passWeek cX1_passWeek 4 none, Cond.fieldLink RX1 55 "TandemExchange$Member" "missedInRow" "I", Cond.methodLink RX1 81 yX1_greaterPartner, Cond.instanceMethod yX1_greaterPartner, Cond.selects RX1 yX1_greaterPartner yX1_greaterPartner, Cond.code yX1_greaterPartner cX1_greaterPartner 3 (some .int), Cond.methodLink RX1 32 yX1_has, Cond.methodLink RX1 115 yX1_passWeekOfPair, Cond.instanceMethod yX1_passWeekOfPair]
def wsL_partsAfter_r4 : List Cond := [Cond.selects RX1 yX1_passWeekOfPair yX1_passWeekOfPair, Cond.code yX1_passWeekOfPair cX1_passWeekOfPair 8 none, Cond.methodLink RX1 118 yX3_failToMeet, Cond.instanceMethod yX3_failToMeet, Cond.selects RX3 yX3_failToMeet yX3_failToMeet, Cond.code yX3_failToMeet cX3_failToMeet 2 none, Cond.methodLink RX3 49 yX3_gainCredits, Cond.instanceMethod yX3_gainCredits, Cond.selects RX3 yX3_gainCredits yX3_gainCredits, Cond.code yX3_gainCredits cX3_gainCredits 2 none, Cond.methodLink RX3 40 Lib.Math.min.name, Cond.static Lib.Math.min.name, Cond.initialized "java/lang/Math", Cond.code Lib.Math.min.name Lib.Math.min.code 2 (some .int), Cond.methodLink RX3 46 Lib.Math.max.name, Cond.static Lib.Math.max.name, Cond.code Lib.Math.max.name Lib.Math.max.code 2 (some .int), Cond.methodLink RX1 122 yX1_pointsOfMeeting, Cond.instanceMethod yX1_pointsOfMeeting, Cond.selects RX1 yX1_pointsOfMeeting yX1_pointsOfMeeting, Cond.code yX1_pointsOfMeeting cX1_pointsOfMeeting 3 (some .int), Cond.methodLink RX1 128 Lib.Math.max.name, Cond.methodLink RX1 62 yX1_lead, Cond.instanceMethod yX1_lead]
def wsL_partsAfter_r5 : List Cond := [Cond.selects RX1 yX1_lead yX1_lead, Cond.code yX1_lead cX1_lead 4 (some .int), Cond.fieldLink RX1 40 "TandemExchange$Member" "wants" "I", Cond.fieldLink RX1 36 "TandemExchange$Member" "levels" "[I", Cond.methodLink RX1 125 yX3_meet, Cond.instanceMethod yX3_meet, Cond.selects RX3 yX3_meet yX3_meet, Cond.code yX3_meet cX3_meet 2 none, Cond.methodLink RX3 53 yX3_learn, Cond.instanceMethod yX3_learn, Cond.selects RX3 yX3_learn yX3_learn, Cond.code yX3_learn cX3_learn 2 none, Cond.methodLink RX1 74 yX1_fit, Cond.instanceMethod yX1_fit, Cond.selects RX1 yX1_fit yX1_fit, Cond.code yX1_fit cX1_fit 3 (some .boolean), Cond.methodLink RX1 94 yX1_separate, Cond.instanceMethod yX1_separate, Cond.selects RX1 yX1_separate yX1_separate, Cond.code yX1_separate cX1_separate 3 none]
def wsL_partsAfter : List Cond := .codeWith yL_partsAfter cL_partsAfter 5 (some .int) [(0, 10, 13, 28), (0, 10, 17, 13), (0, 10, 21, 15)] :: ((wsL_partsAfter_r1 ++ (wsL_partsAfter_r2 ++ (wsL_partsAfter_r3 ++ (wsL_partsAfter_r4 ++ wsL_partsAfter_r5)))) ++ wsX50 ++ wsX10 ++ wsX30 ++ (vx_atS RX5 259 "java/lang/IndexOutOfBoundsException" ["java/lang/RuntimeException", "java/lang/Exception"]).filter goodWord ++ (vx_atS RX5 105 "java/lang/IllegalArgumentException" ["java/lang/RuntimeException", "java/lang/Exception"]).filter goodWord ++ (vx_atS RX5 60 "java/lang/IllegalStateException" ["java/lang/RuntimeException", "java/lang/Exception"]).filter goodWord)
def wsL_runScript_r1 : List Cond := [Cond.classLink RL 13 "java/lang/IllegalArgumentException", Cond.methodLink RL 81 yX5_runScript, Cond.instanceMethod yX5_runScript, Cond.selects RX5 yX5_runScript yX5_runScript, Cond.initialized RX5, Cond.code yX5_runScript cX5_runScript 6 (some .int), Cond.classLink RX5 101 "java/lang/IllegalArgumentException", Cond.initialized "java/lang/IllegalArgumentException", Cond.fieldLink RX5 23 "TandemExchange" "trial" "LTandemExchange$Circle;", Cond.fieldLink RX5 19 "TandemExchange" "circle" "LTandemExchange$Circle;", Cond.constantLong RX5 238 (10000), Cond.methodLink RX5 48 yX5_requireRange, Cond.static yX5_requireRange, Cond.code yX5_requireRange cX5_requireRange 3 none, Cond.methodLink RX5 232 yX5_withoutLowestGroups, Cond.static yX5_withoutLowestGroups, Cond.code yX5_withoutLowestGroups cX5_withoutLowestGroups 6 (some .long), Cond.methodLink RX5 226 yX1_copyFrom, Cond.instanceMethod yX1_copyFrom, Cond.selects RX1 yX1_copyFrom yX1_copyFrom, Cond.initialized RX1, Cond.code yX1_copyFrom cX1_copyFrom 3 none, Cond.fieldLink RX1 18 "TandemExchange$Circle" "size" "I", Cond.fieldLink RX1 11 "TandemExchange$Circle" "members" "[LTandemExchange$Member;"]
def wsL_runScript_r2 : List Cond := [Cond.fieldLink RX1 26 "TandemExchange$Circle" "weeks" "I", Cond.methodLink RX1 22 yX3_copyFrom, Cond.instanceMethod yX3_copyFrom, Cond.selects RX3 yX3_copyFrom yX3_copyFrom, Cond.initialized RX3, Cond.code yX3_copyFrom cX3_copyFrom 2 none, Cond.fieldLink RX3 9 "TandemExchange$Member" "levels" "[I", Cond.methodLink RX3 15 arraycopyName, Cond.native arraycopyName, Cond.static arraycopyName, Cond.initialized "java/lang/System", Cond.fieldLink RX3 21 "TandemExchange$Member" "wants" "I", Cond.fieldLink RX3 25 "TandemExchange$Member" "progress" "I", Cond.fieldLink RX3 28 "TandemExchange$Member" "credits" "I", Cond.fieldLink RX3 31 "TandemExchange$Member" "missed" "I", Cond.fieldLink RX3 34 "TandemExchange$Member" "partner" "I", Cond.fieldLink RX3 37 "TandemExchange$Member" "missedInRow" "I", Cond.methodLink RX5 240 yX5_commandSucceeds, Cond.instanceMethod yX5_commandSucceeds, Cond.selects RX5 yX5_commandSucceeds yX5_commandSucceeds, Cond.code yX5_commandSucceeds cX5_commandSucceeds 7 (some .boolean), Cond.fieldLink RX5 143 "TandemExchange$Circle" "members" "[LTandemExchange$Member;", Cond.fieldLink RX5 179 "TandemExchange$Member" "partner" "I", Cond.fieldLink RX5 161 "TandemExchange$Member" "levels" "[I"]
def wsL_runScript_r3 : List Cond := [Cond.methodLink RX5 252 yX1_has, Cond.instanceMethod yX1_has, Cond.selects RX1 yX1_has yX1_has, Cond.code yX1_has cX1_has 2 (some .boolean), Cond.methodLink RX5 168 yX1_canBecomePartners, Cond.instanceMethod yX1_canBecomePartners, Cond.selects RX1 yX1_canBecomePartners yX1_canBecomePartners, Cond.code yX1_canBecomePartners cX1_canBecomePartners 3 (some .boolean), Cond.methodLink RX1 52 yX1_isFree, Cond.instanceMethod yX1_isFree, Cond.selects RX1 yX1_isFree yX1_isFree, Cond.code yX1_isFree cX1_isFree 2 (some .boolean), Cond.fieldLink RX1 29 "TandemExchange$Member" "partner" "I", Cond.methodLink RX1 74 yX1_fit, Cond.instanceMethod yX1_fit, Cond.selects RX1 yX1_fit yX1_fit, Cond.code yX1_fit cX1_fit 3 (some .boolean), Cond.methodLink RX1 62 yX1_lead, Cond.instanceMethod yX1_lead, Cond.selects RX1 yX1_lead yX1_lead, Cond.code yX1_lead cX1_lead 4 (some .int), Cond.fieldLink RX1 40 "TandemExchange$Member" "wants" "I", Cond.fieldLink RX1 36 "TandemExchange$Member" "levels" "[I", Cond.methodLink RX5 173 yX1_unite]
def wsL_runScript_r4 : List Cond := [Cond.instanceMethod yX1_unite, Cond.selects RX1 yX1_unite yX1_unite, Cond.code yX1_unite cX1_unite 3 none, Cond.fieldLink RX1 55 "TandemExchange$Member" "missedInRow" "I", Cond.methodLink RX5 205 yX1_isFree, Cond.methodLink RX5 182 yX1_separate, Cond.instanceMethod yX1_separate, Cond.selects RX1 yX1_separate yX1_separate, Cond.code yX1_separate cX1_separate 3 none, Cond.methodLink RX1 32 yX1_has, Cond.methodLink RX5 185 yX1_matchFree, Cond.instanceMethod yX1_matchFree, Cond.selects RX1 yX1_matchFree yX1_matchFree, Cond.code yX1_matchFree cX1_matchFree 2 (some .int), Cond.methodLink RX1 101 yX1_uniteBestFreePair, Cond.instanceMethod yX1_uniteBestFreePair, Cond.selects RX1 yX1_uniteBestFreePair yX1_uniteBestFreePair, Cond.code yX1_uniteBestFreePair cX1_uniteBestFreePair 6 (some .boolean), Cond.methodLink RX1 105 yX1_canBecomePartners, Cond.methodLink RX1 84 yX1_value, Cond.instanceMethod yX1_value, Cond.selects RX1 yX1_value yX1_value, Cond.code yX1_value cX1_value 3 (some .int), Cond.methodLink RX1 71 yX1_score]
def wsL_runScript_r5 : List Cond := [Cond.instanceMethod yX1_score, Cond.selects RX1 yX1_score yX1_score, Cond.code yX1_score cX1_score 4 (some .int), Cond.fieldLink RX1 49 "TandemExchange$Member" "missed" "I", Cond.fieldLink RX1 46 "TandemExchange$Member" "credits" "I", Cond.methodLink RX1 66 yJ9_floorDiv_7cf53, Cond.static yJ9_floorDiv_7cf53, Cond.initialized RJ9, Cond.code yJ9_floorDiv_7cf53 cJ9_floorDiv_7cf53 3 (some .int), Cond.methodLink RX1 108 yX1_unite, Cond.methodLink RX5 188 yX1_settleBy, Cond.instanceMethod yX1_settleBy, Cond.selects RX1 yX1_settleBy yX1_settleBy, Cond.code yX1_settleBy cX1_settleBy 3 (some .int), Cond.methodLink RX1 112 yX1_uniteFirstBlockingPair, Cond.instanceMethod yX1_uniteFirstBlockingPair, Cond.selects RX1 yX1_uniteFirstBlockingPair yX1_uniteFirstBlockingPair, Cond.code yX1_uniteFirstBlockingPair cX1_uniteFirstBlockingPair 3 (some .boolean), Cond.methodLink RX1 87 yX1_block, Cond.instanceMethod yX1_block, Cond.selects RX1 yX1_block yX1_block, Cond.code yX1_block cX1_block 3 (some .boolean), Cond.methodLink RX1 78 yX1_prefers, Cond.instanceMethod yX1_prefers]
def wsL_runScript_r6 : List Cond := [Cond.selects RX1 yX1_prefers yX1_prefers, Cond.code yX1_prefers cX1_prefers 4 (some .boolean), Cond.methodLink RX1 94 yX1_separate, Cond.methodLink RX5 192 yX1_passWeek, Cond.instanceMethod yX1_passWeek, Cond.selects RX1 yX1_passWeek yX1_passWeek, Cond.code yX1_passWeek cX1_passWeek 4 none, Cond.methodLink RX1 81 yX1_greaterPartner, Cond.instanceMethod yX1_greaterPartner, Cond.selects RX1 yX1_greaterPartner yX1_greaterPartner, Cond.code yX1_greaterPartner cX1_greaterPartner 3 (some .int), Cond.methodLink RX1 115 yX1_passWeekOfPair, Cond.instanceMethod yX1_passWeekOfPair, Cond.selects RX1 yX1_passWeekOfPair yX1_passWeekOfPair, Cond.code yX1_passWeekOfPair cX1_passWeekOfPair 8 none, Cond.methodLink RX1 118 yX3_failToMeet, Cond.instanceMethod yX3_failToMeet, Cond.selects RX3 yX3_failToMeet yX3_failToMeet, Cond.code yX3_failToMeet cX3_failToMeet 2 none, Cond.methodLink RX3 49 yX3_gainCredits, Cond.instanceMethod yX3_gainCredits, Cond.selects RX3 yX3_gainCredits yX3_gainCredits, Cond.code yX3_gainCredits cX3_gainCredits 2 none, Cond.methodLink RX3 40 Lib.Math.min.name]
def wsL_runScript_r7 : List Cond := [Cond.static Lib.Math.min.name, Cond.initialized "java/lang/Math", Cond.code Lib.Math.min.name Lib.Math.min.code 2 (some .int), Cond.methodLink RX3 46 Lib.Math.max.name, Cond.static Lib.Math.max.name, Cond.code Lib.Math.max.name Lib.Math.max.code 2 (some .int), Cond.methodLink RX1 122 yX1_pointsOfMeeting, Cond.instanceMethod yX1_pointsOfMeeting, Cond.selects RX1 yX1_pointsOfMeeting yX1_pointsOfMeeting, Cond.code yX1_pointsOfMeeting cX1_pointsOfMeeting 3 (some .int), Cond.methodLink RX1 128 Lib.Math.max.name, Cond.methodLink RX1 125 yX3_meet, Cond.instanceMethod yX3_meet, Cond.selects RX3 yX3_meet yX3_meet, Cond.code yX3_meet cX3_meet 2 none, Cond.methodLink RX3 53 yX3_learn, Cond.instanceMethod yX3_learn, Cond.selects RX3 yX3_learn yX3_learn, Cond.code yX3_learn cX3_learn 2 none, Cond.methodLink RX5 165 yX1_grade, Cond.instanceMethod yX1_grade, Cond.selects RX1 yX1_grade yX1_grade, Cond.code yX1_grade cX1_grade 5 none, Cond.fieldLink RX1 43 "TandemExchange$Member" "progress" "I"]
def wsL_runScript_r8 : List Cond := [Cond.methodLink RX1 98 yX1_separateIfUnfit, Cond.instanceMethod yX1_separateIfUnfit, Cond.selects RX1 yX1_separateIfUnfit yX1_separateIfUnfit, Cond.code yX1_separateIfUnfit cX1_separateIfUnfit 3 none, Cond.methodLink RX5 83 yX1_countPairs, Cond.instanceMethod yX1_countPairs, Cond.selects RX1 yX1_countPairs yX1_countPairs, Cond.code yX1_countPairs cX1_countPairs 3 (some .int)]
def wsL_runScript : List Cond := .codeWith yL_runScript cL_runScript 6 (some .int) [(0, 11, 14, 13)] :: ((wsL_runScript_r1 ++ (wsL_runScript_r2 ++ (wsL_runScript_r3 ++ (wsL_runScript_r4 ++ (wsL_runScript_r5 ++ (wsL_runScript_r6 ++ (wsL_runScript_r7 ++ wsL_runScript_r8))))))) ++ wsX50 ++ wsX10 ++ wsX30 ++ (vx_atS RX5 105 "java/lang/IllegalArgumentException" ["java/lang/RuntimeException", "java/lang/Exception"]).filter goodWord)
def wsL_simulate_r1 : List Cond := [Cond.classLink RL 13 "java/lang/IllegalArgumentException", Cond.methodLink RL 85 yX5_simulate, Cond.instanceMethod yX5_simulate, Cond.selects RX5 yX5_simulate yX5_simulate, Cond.initialized RX5, Cond.code yX5_simulate cX5_simulate 8 (some .int), Cond.fieldLink RX5 23 "TandemExchange" "trial" "LTandemExchange$Circle;", Cond.fieldLink RX5 19 "TandemExchange" "circle" "LTandemExchange$Circle;", Cond.constantLong RX5 243 (6364136223846793005), Cond.constantLong RX5 245 (1442695040888963407), Cond.methodLink RX5 48 yX5_requireRange, Cond.static yX5_requireRange, Cond.code yX5_requireRange cX5_requireRange 3 none, Cond.classLink RX5 101 "java/lang/IllegalArgumentException", Cond.initialized "java/lang/IllegalArgumentException", Cond.methodLink RX5 226 yX1_copyFrom, Cond.instanceMethod yX1_copyFrom, Cond.selects RX1 yX1_copyFrom yX1_copyFrom, Cond.initialized RX1, Cond.code yX1_copyFrom cX1_copyFrom 3 none, Cond.fieldLink RX1 18 "TandemExchange$Circle" "size" "I", Cond.fieldLink RX1 11 "TandemExchange$Circle" "members" "[LTandemExchange$Member;", Cond.fieldLink RX1 26 "TandemExchange$Circle" "weeks" "I", Cond.methodLink RX1 22 yX3_copyFrom]
def wsL_simulate_r2 : List Cond := [Cond.instanceMethod yX3_copyFrom, Cond.selects RX3 yX3_copyFrom yX3_copyFrom, Cond.initialized RX3, Cond.code yX3_copyFrom cX3_copyFrom 2 none, Cond.fieldLink RX3 9 "TandemExchange$Member" "levels" "[I", Cond.methodLink RX3 15 arraycopyName, Cond.native arraycopyName, Cond.static arraycopyName, Cond.initialized "java/lang/System", Cond.fieldLink RX3 21 "TandemExchange$Member" "wants" "I", Cond.fieldLink RX3 25 "TandemExchange$Member" "progress" "I", Cond.fieldLink RX3 28 "TandemExchange$Member" "credits" "I", Cond.fieldLink RX3 31 "TandemExchange$Member" "missed" "I", Cond.fieldLink RX3 34 "TandemExchange$Member" "partner" "I", Cond.fieldLink RX3 37 "TandemExchange$Member" "missedInRow" "I", Cond.methodLink RX5 185 yX1_matchFree, Cond.instanceMethod yX1_matchFree, Cond.selects RX1 yX1_matchFree yX1_matchFree, Cond.code yX1_matchFree cX1_matchFree 2 (some .int), Cond.methodLink RX1 101 yX1_uniteBestFreePair, Cond.instanceMethod yX1_uniteBestFreePair, Cond.selects RX1 yX1_uniteBestFreePair yX1_uniteBestFreePair, Cond.code yX1_uniteBestFreePair cX1_uniteBestFreePair 6 (some .boolean), Cond.methodLink RX1 105 yX1_canBecomePartners]
def wsL_simulate_r3 : List Cond := [Cond.instanceMethod yX1_canBecomePartners, Cond.selects RX1 yX1_canBecomePartners yX1_canBecomePartners, Cond.code yX1_canBecomePartners cX1_canBecomePartners 3 (some .boolean), Cond.methodLink RX1 52 yX1_isFree, Cond.instanceMethod yX1_isFree, Cond.selects RX1 yX1_isFree yX1_isFree, Cond.code yX1_isFree cX1_isFree 2 (some .boolean), Cond.fieldLink RX1 29 "TandemExchange$Member" "partner" "I", Cond.methodLink RX1 74 yX1_fit, Cond.instanceMethod yX1_fit, Cond.selects RX1 yX1_fit yX1_fit, Cond.code yX1_fit cX1_fit 3 (some .boolean), Cond.methodLink RX1 62 yX1_lead, Cond.instanceMethod yX1_lead, Cond.selects RX1 yX1_lead yX1_lead, Cond.code yX1_lead cX1_lead 4 (some .int), Cond.fieldLink RX1 40 "TandemExchange$Member" "wants" "I", Cond.fieldLink RX1 36 "TandemExchange$Member" "levels" "[I", Cond.methodLink RX1 84 yX1_value, Cond.instanceMethod yX1_value, Cond.selects RX1 yX1_value yX1_value, Cond.code yX1_value cX1_value 3 (some .int), Cond.methodLink RX1 71 yX1_score, Cond.instanceMethod yX1_score]
def wsL_simulate_r4 : List Cond := [Cond.selects RX1 yX1_score yX1_score, Cond.code yX1_score cX1_score 4 (some .int), Cond.fieldLink RX1 49 "TandemExchange$Member" "missed" "I", Cond.fieldLink RX1 46 "TandemExchange$Member" "credits" "I", Cond.methodLink RX1 66 yJ9_floorDiv_7cf53, Cond.static yJ9_floorDiv_7cf53, Cond.initialized RJ9, Cond.code yJ9_floorDiv_7cf53 cJ9_floorDiv_7cf53 3 (some .int), Cond.methodLink RX1 32 yX1_has, Cond.instanceMethod yX1_has, Cond.selects RX1 yX1_has yX1_has, Cond.code yX1_has cX1_has 2 (some .boolean), Cond.methodLink RX1 108 yX1_unite, Cond.instanceMethod yX1_unite, Cond.selects RX1 yX1_unite yX1_unite, Cond.code yX1_unite cX1_unite 3 none, Cond.fieldLink RX1 55 "TandemExchange$Member" "missedInRow" "I", Cond.methodLink RX5 192 yX1_passWeek, Cond.instanceMethod yX1_passWeek, Cond.selects RX1 yX1_passWeek yX1_passWeek, Cond.code yX1_passWeek cX1_passWeek 4 none, Cond.methodLink RX1 81 yX1_greaterPartner, Cond.instanceMethod yX1_greaterPartner, Cond.selects RX1 yX1_greaterPartner yX1_greaterPartner]
def wsL_simulate_r5 : List Cond := [Cond.code yX1_greaterPartner cX1_greaterPartner 3 (some .int), Cond.methodLink RX1 115 yX1_passWeekOfPair, Cond.instanceMethod yX1_passWeekOfPair, Cond.selects RX1 yX1_passWeekOfPair yX1_passWeekOfPair, Cond.code yX1_passWeekOfPair cX1_passWeekOfPair 8 none, Cond.methodLink RX1 118 yX3_failToMeet, Cond.instanceMethod yX3_failToMeet, Cond.selects RX3 yX3_failToMeet yX3_failToMeet, Cond.code yX3_failToMeet cX3_failToMeet 2 none, Cond.methodLink RX3 49 yX3_gainCredits, Cond.instanceMethod yX3_gainCredits, Cond.selects RX3 yX3_gainCredits yX3_gainCredits, Cond.code yX3_gainCredits cX3_gainCredits 2 none, Cond.methodLink RX3 40 Lib.Math.min.name, Cond.static Lib.Math.min.name, Cond.initialized "java/lang/Math", Cond.code Lib.Math.min.name Lib.Math.min.code 2 (some .int), Cond.methodLink RX3 46 Lib.Math.max.name, Cond.static Lib.Math.max.name, Cond.code Lib.Math.max.name Lib.Math.max.code 2 (some .int), Cond.methodLink RX1 122 yX1_pointsOfMeeting, Cond.instanceMethod yX1_pointsOfMeeting, Cond.selects RX1 yX1_pointsOfMeeting yX1_pointsOfMeeting, Cond.code yX1_pointsOfMeeting cX1_pointsOfMeeting 3 (some .int)]
def wsL_simulate_r6 : List Cond := [Cond.methodLink RX1 128 Lib.Math.max.name, Cond.methodLink RX1 125 yX3_meet, Cond.instanceMethod yX3_meet, Cond.selects RX3 yX3_meet yX3_meet, Cond.code yX3_meet cX3_meet 2 none, Cond.methodLink RX3 53 yX3_learn, Cond.instanceMethod yX3_learn, Cond.selects RX3 yX3_learn yX3_learn, Cond.code yX3_learn cX3_learn 2 none, Cond.methodLink RX1 94 yX1_separate, Cond.instanceMethod yX1_separate, Cond.selects RX1 yX1_separate yX1_separate, Cond.code yX1_separate cX1_separate 3 none, Cond.methodLink RX5 95 yX1_sumOfCredits, Cond.instanceMethod yX1_sumOfCredits, Cond.selects RX1 yX1_sumOfCredits yX1_sumOfCredits, Cond.code yX1_sumOfCredits cX1_sumOfCredits 3 (some .int)]
def wsL_simulate : List Cond := .codeWith yL_simulate cL_simulate 6 (some .int) [(0, 11, 14, 13)] :: ((wsL_simulate_r1 ++ (wsL_simulate_r2 ++ (wsL_simulate_r3 ++ (wsL_simulate_r4 ++ (wsL_simulate_r5 ++ wsL_simulate_r6))))) ++ wsX50 ++ wsX10 ++ wsX30 ++ (vx_atS RX5 105 "java/lang/IllegalArgumentException" ["java/lang/RuntimeException", "java/lang/Exception"]).filter goodWord)
def wsL_save_r1 : List Cond := [Cond.classLink RL 28 "java/lang/IndexOutOfBoundsException", Cond.methodLink RL 89 yX5_save, Cond.instanceMethod yX5_save, Cond.selects RX5 yX5_save yX5_save, Cond.initialized RX5, Cond.code yX5_save cX5_save 2 (some .int), Cond.fieldLink RX5 33 "TandemExchange" "slots" "[LTandemExchange$Circle;", Cond.fieldLink RX5 19 "TandemExchange" "circle" "LTandemExchange$Circle;", Cond.fieldLink RX5 37 "TandemExchange" "saved" "[Z", Cond.fieldLink RX5 86 "TandemExchange$Circle" "weeks" "I", Cond.methodLink RX5 247 yX5_requireSlot, Cond.static yX5_requireSlot, Cond.code yX5_requireSlot cX5_requireSlot 1 none, Cond.classLink RX5 255 "java/lang/IndexOutOfBoundsException", Cond.initialized "java/lang/IndexOutOfBoundsException", Cond.methodLink RX5 226 yX1_copyFrom, Cond.instanceMethod yX1_copyFrom, Cond.selects RX1 yX1_copyFrom yX1_copyFrom, Cond.initialized RX1, Cond.code yX1_copyFrom cX1_copyFrom 3 none, Cond.fieldLink RX1 18 "TandemExchange$Circle" "size" "I", Cond.fieldLink RX1 11 "TandemExchange$Circle" "members" "[LTandemExchange$Member;", Cond.fieldLink RX1 26 "TandemExchange$Circle" "weeks" "I", Cond.methodLink RX1 22 yX3_copyFrom]
def wsL_save_r2 : List Cond := [Cond.instanceMethod yX3_copyFrom, Cond.selects RX3 yX3_copyFrom yX3_copyFrom, Cond.initialized RX3, Cond.code yX3_copyFrom cX3_copyFrom 2 none, Cond.fieldLink RX3 9 "TandemExchange$Member" "levels" "[I", Cond.methodLink RX3 15 arraycopyName, Cond.native arraycopyName, Cond.static arraycopyName, Cond.initialized "java/lang/System", Cond.fieldLink RX3 21 "TandemExchange$Member" "wants" "I", Cond.fieldLink RX3 25 "TandemExchange$Member" "progress" "I", Cond.fieldLink RX3 28 "TandemExchange$Member" "credits" "I", Cond.fieldLink RX3 31 "TandemExchange$Member" "missed" "I", Cond.fieldLink RX3 34 "TandemExchange$Member" "partner" "I", Cond.fieldLink RX3 37 "TandemExchange$Member" "missedInRow" "I"]
def wsL_save : List Cond := .codeWith yL_save cL_save 4 (some .int) [(0, 9, 12, 28)] :: ((wsL_save_r1 ++ wsL_save_r2) ++ wsX50 ++ wsX10 ++ wsX30 ++ (vx_atS RX5 259 "java/lang/IndexOutOfBoundsException" ["java/lang/RuntimeException", "java/lang/Exception"]).filter goodWord)
def wsL_restore_r1 : List Cond := [Cond.classLink RL 28 "java/lang/IndexOutOfBoundsException", Cond.classLink RL 15 "java/lang/IllegalStateException", Cond.methodLink RL 92 yX5_restore, Cond.instanceMethod yX5_restore, Cond.selects RX5 yX5_restore yX5_restore, Cond.initialized RX5, Cond.code yX5_restore cX5_restore 2 (some .int), Cond.classLink RX5 56 "java/lang/IllegalStateException", Cond.initialized "java/lang/IllegalStateException", Cond.fieldLink RX5 37 "TandemExchange" "saved" "[Z", Cond.fieldLink RX5 19 "TandemExchange" "circle" "LTandemExchange$Circle;", Cond.fieldLink RX5 33 "TandemExchange" "slots" "[LTandemExchange$Circle;", Cond.fieldLink RX5 29 "TandemExchange" "history" "LTandemExchange$History;", Cond.fieldLink RX5 86 "TandemExchange$Circle" "weeks" "I", Cond.methodLink RX5 247 yX5_requireSlot, Cond.static yX5_requireSlot, Cond.code yX5_requireSlot cX5_requireSlot 1 none, Cond.classLink RX5 255 "java/lang/IndexOutOfBoundsException", Cond.initialized "java/lang/IndexOutOfBoundsException", Cond.methodLink RX5 226 yX1_copyFrom, Cond.instanceMethod yX1_copyFrom, Cond.selects RX1 yX1_copyFrom yX1_copyFrom, Cond.initialized RX1, Cond.code yX1_copyFrom cX1_copyFrom 3 none]
def wsL_restore_r2 : List Cond := [Cond.fieldLink RX1 18 "TandemExchange$Circle" "size" "I", Cond.fieldLink RX1 11 "TandemExchange$Circle" "members" "[LTandemExchange$Member;", Cond.fieldLink RX1 26 "TandemExchange$Circle" "weeks" "I", Cond.methodLink RX1 22 yX3_copyFrom, Cond.instanceMethod yX3_copyFrom, Cond.selects RX3 yX3_copyFrom yX3_copyFrom, Cond.initialized RX3, Cond.code yX3_copyFrom cX3_copyFrom 2 none, Cond.fieldLink RX3 9 "TandemExchange$Member" "levels" "[I", Cond.methodLink RX3 15 arraycopyName, Cond.native arraycopyName, Cond.static arraycopyName, Cond.initialized "java/lang/System", Cond.fieldLink RX3 21 "TandemExchange$Member" "wants" "I", Cond.fieldLink RX3 25 "TandemExchange$Member" "progress" "I", Cond.fieldLink RX3 28 "TandemExchange$Member" "credits" "I", Cond.fieldLink RX3 31 "TandemExchange$Member" "missed" "I", Cond.fieldLink RX3 34 "TandemExchange$Member" "partner" "I", Cond.fieldLink RX3 37 "TandemExchange$Member" "missedInRow" "I", Cond.methodLink RX5 77 yX2_forget, Cond.instanceMethod yX2_forget, Cond.selects RX2 yX2_forget yX2_forget, Cond.initialized RX2, Cond.code yX2_forget cX2_forget 1 none]
def wsL_restore_r3 : List Cond := [Cond.fieldLink RX2 18 "TandemExchange$History" "count" "I"]
def wsL_restore : List Cond := .codeWith yL_restore cL_restore 4 (some .int) [(0, 9, 12, 28), (0, 9, 15, 15)] :: ((wsL_restore_r1 ++ (wsL_restore_r2 ++ wsL_restore_r3)) ++ wsX50 ++ wsX10 ++ wsX30 ++ wsX20 ++ (vx_atS RX5 60 "java/lang/IllegalStateException" ["java/lang/RuntimeException", "java/lang/Exception"]).filter goodWord ++ (vx_atS RX5 259 "java/lang/IndexOutOfBoundsException" ["java/lang/RuntimeException", "java/lang/Exception"]).filter goodWord)
def wsL_law0_r1 : List Cond := [Cond.classLink RL 8 RX5, Cond.instantiable RX5 7, Cond.initialized RX5, Cond.classLink RL 96 RX6, Cond.instantiable RX6 13, Cond.initialized RX6, Cond.arrayClass .long, Cond.constantLong RL 186 (4294967295), Cond.methodLink RL 95 yX5_init, Cond.instanceMethod yX5_init, Cond.code yX5_init cX5_init 2 none, Cond.methodLink RX5 3 objectInit, Cond.instanceMethod objectInit, Cond.code objectInit ⟨#[0xb1]⟩ 1 none, Cond.classLink RX5 9 RX4, Cond.instantiable RX4 2, Cond.initialized RX4, Cond.fieldLink RX5 12 "TandemExchange" "text" "LTandemExchange$Text;", Cond.classLink RX5 16 RX1, Cond.instantiable RX1 3, Cond.initialized RX1, Cond.fieldLink RX5 19 "TandemExchange" "circle" "LTandemExchange$Circle;", Cond.fieldLink RX5 23 "TandemExchange" "trial" "LTandemExchange$Circle;", Cond.classLink RX5 26 RX2]
def wsL_law0_r2 : List Cond := [Cond.instantiable RX2 3, Cond.initialized RX2, Cond.fieldLink RX5 29 "TandemExchange" "history" "LTandemExchange$History;", Cond.fieldLink RX5 33 "TandemExchange" "slots" "[LTandemExchange$Circle;", Cond.arrayClass .boolean, Cond.fieldLink RX5 37 "TandemExchange" "saved" "[Z", Cond.classLink RX5 41 RX0, Cond.instantiable RX0 1, Cond.initialized RX0, Cond.fieldLink RX5 44 "TandemExchange" "bestMatching" "LTandemExchange$BestMatching;", Cond.instanceMethod yX4_init, Cond.code yX4_init cX4_init 1 none, Cond.methodLink RX4 3 objectInit, Cond.arrayClass .char, Cond.fieldLink RX4 9 "TandemExchange$Text" "characters" "[C", Cond.methodLink RX5 18 yX1_init, Cond.instanceMethod yX1_init, Cond.code yX1_init cX1_init 2 none, Cond.methodLink RX1 3 objectInit, Cond.classLink RX1 9 RX3, Cond.fieldLink RX1 11 "TandemExchange$Circle" "members" "[LTandemExchange$Member;", Cond.instantiable RX3 7, Cond.initialized RX3, Cond.instanceMethod yX3_init]
def wsL_law0_r3 : List Cond := [Cond.code yX3_init cX3_init 1 none, Cond.methodLink RX3 3 objectInit, Cond.arrayClass .int, Cond.fieldLink RX3 9 "TandemExchange$Member" "levels" "[I", Cond.methodLink RX5 28 yX2_init, Cond.instanceMethod yX2_init, Cond.code yX2_init cX2_init 2 none, Cond.methodLink RX2 3 objectInit, Cond.classLink RX2 9 RX1, Cond.fieldLink RX2 11 "TandemExchange$History" "states" "[LTandemExchange$Circle;", Cond.methodLink RX2 17 yX1_init, Cond.instanceMethod yX0_init, Cond.code yX0_init cX0_init 1 none, Cond.methodLink RX0 3 objectInit, Cond.fieldLink RX0 9 "TandemExchange$BestMatching" "ranks" "[I", Cond.methodLink RL 98 yX6_init, Cond.instanceMethod yX6_init, Cond.code yX6_init cX6_init 1 none, Cond.methodLink RX6 1 objectInit, Cond.fieldLink RX6 7 "TandemExchangeModel" "text" "[I", Cond.fieldLink RX6 13 "TandemExchangeModel" "read" "[I", Cond.fieldLink RX6 16 "TandemExchangeModel" "now" "[I", Cond.fieldLink RX6 19 "TandemExchangeModel" "trial" "[I", Cond.fieldLink RX6 22 "TandemExchangeModel" "diary" "[I"]
def wsL_law0_r4 : List Cond := [Cond.fieldLink RX6 25 "TandemExchangeModel" "kept" "[I", Cond.fieldLink RX6 28 "TandemExchangeModel" "isKept" "[Z", Cond.fieldLink RX6 32 "TandemExchangeModel" "pairs" "[I", Cond.fieldLink RX6 35 "TandemExchangeModel" "sums" "[I", Cond.methodLink RL 99 yL_append, Cond.static yL_append, Cond.initialized RL, Cond.codeWith yL_append cL_append 4 (some .int) [(0, 9, 12, 13), (0, 9, 15, 15)], Cond.classLink RL 13 "java/lang/IllegalArgumentException", Cond.classLink RL 15 "java/lang/IllegalStateException", Cond.methodLink RL 7 yX5_append, Cond.instanceMethod yX5_append, Cond.selects RX5 yX5_append yX5_append, Cond.code yX5_append cX5_append 2 (some .int), Cond.classLink RX5 56 "java/lang/IllegalStateException", Cond.initialized "java/lang/IllegalStateException", Cond.fieldLink RX5 52 "TandemExchange$Text" "length" "I", Cond.methodLink RX5 48 yX5_requireRange, Cond.static yX5_requireRange, Cond.code yX5_requireRange cX5_requireRange 3 none, Cond.classLink RX5 101 "java/lang/IllegalArgumentException", Cond.initialized "java/lang/IllegalArgumentException", Cond.methodLink RX5 63 yX4_add, Cond.instanceMethod yX4_add]
def wsL_law0_r5 : List Cond := [Cond.selects RX4 yX4_add yX4_add, Cond.code yX4_add cX4_add 2 none, Cond.fieldLink RX4 15 "TandemExchange$Text" "length" "I", Cond.methodLink RL 104 yX6_append, Cond.instanceMethod yX6_append, Cond.selects RX6 yX6_append yX6_append, Cond.code yX6_append cX6_append 2 (some .int), Cond.constantLong RX6 106 (255), Cond.fieldLink RX6 108 "TandemExchangeModel" "textSize" "I", Cond.methodLink RX6 42 yX6_in, Cond.static yX6_in, Cond.code yX6_in cX6_in 6 (some .boolean), Cond.methodLink RX6 111 yX6_refused, Cond.instanceMethod yX6_refused, Cond.selects RX6 yX6_refused yX6_refused, Cond.code yX6_refused cX6_refused 2 (some .boolean), Cond.fieldLink RX6 38 "TandemExchangeModel" "refusal" "I", Cond.methodLink RL 105 yX6_thrown, Cond.instanceMethod yX6_thrown, Cond.selects RX6 yX6_thrown yX6_thrown, Cond.code yX6_thrown cX6_thrown 1 (some .int), Cond.methodLink RL 108 yX5_clearText, Cond.instanceMethod yX5_clearText, Cond.selects RX5 yX5_clearText yX5_clearText]
def wsL_law0_r6 : List Cond := [Cond.code yX5_clearText cX5_clearText 2 (some .int), Cond.methodLink RL 111 yX6_clearText, Cond.instanceMethod yX6_clearText, Cond.selects RX6 yX6_clearText yX6_clearText, Cond.code yX6_clearText cX6_clearText 2 (some .int), Cond.methodLink RL 112 yX5_errorPosition, Cond.instanceMethod yX5_errorPosition, Cond.selects RX5 yX5_errorPosition yX5_errorPosition, Cond.code yX5_errorPosition cX5_errorPosition 1 (some .int), Cond.methodLink RX5 67 yX4_firstError, Cond.instanceMethod yX4_firstError, Cond.selects RX4 yX4_firstError yX4_firstError, Cond.code yX4_firstError cX4_firstError 2 (some .int), Cond.methodLink RX4 19 yX4_allows, Cond.instanceMethod yX4_allows, Cond.selects RX4 yX4_allows yX4_allows, Cond.code yX4_allows cX4_allows 5 (some .boolean), Cond.methodLink RX4 23 yX4_isWhole, Cond.instanceMethod yX4_isWhole, Cond.selects RX4 yX4_isWhole yX4_isWhole, Cond.code yX4_isWhole cX4_isWhole 1 (some .boolean), Cond.methodLink RL 115 yX6_errorPosition, Cond.instanceMethod yX6_errorPosition, Cond.selects RX6 yX6_errorPosition yX6_errorPosition]
def wsL_law0_r7 : List Cond := [Cond.code yX6_errorPosition cX6_errorPosition 1 (some .int), Cond.fieldLink RX6 115 "TandemExchangeModel" "spot" "I", Cond.methodLink RX6 128 yX6_readAll, Cond.instanceMethod yX6_readAll, Cond.selects RX6 yX6_readAll yX6_readAll, Cond.code yX6_readAll cX6_readAll 1 (some .boolean), Cond.methodLink RX6 121 yX6_eat, Cond.instanceMethod yX6_eat, Cond.selects RX6 yX6_eat yX6_eat, Cond.code yX6_eat cX6_eat 3 (some .boolean), Cond.methodLink RX6 124 yX6_readMember, Cond.instanceMethod yX6_readMember, Cond.selects RX6 yX6_readMember yX6_readMember, Cond.code yX6_readMember cX6_readMember 5 (some .boolean), Cond.methodLink RX6 46 yX6_at, Cond.static yX6_at, Cond.code yX6_at cX6_at 1 (some .int), Cond.methodLink RX6 118 yX6_digit, Cond.instanceMethod yX6_digit, Cond.selects RX6 yX6_digit yX6_digit, Cond.code yX6_digit cX6_digit 4 (some .int), Cond.methodLink RX6 71 yX6_free, Cond.static yX6_free, Cond.code yX6_free cX6_free 2 none]
def wsL_law0_r8 : List Cond := [Cond.methodLink RL 116 yL_load, Cond.static yL_load, Cond.codeWith yL_load cL_load 3 (some .int) [(0, 8, 11, 15)], Cond.methodLink RL 17 yX5_load, Cond.instanceMethod yX5_load, Cond.selects RX5 yX5_load yX5_load, Cond.code yX5_load cX5_load 2 (some .int), Cond.fieldLink RX5 80 "TandemExchange$Circle" "size" "I", Cond.methodLink RX5 73 yX4_readInto, Cond.instanceMethod yX4_readInto, Cond.selects RX4 yX4_readInto yX4_readInto, Cond.code yX4_readInto cX4_readInto 3 none, Cond.fieldLink RX4 27 "TandemExchange$Circle" "size" "I", Cond.fieldLink RX4 32 "TandemExchange$Circle" "weeks" "I", Cond.methodLink RX4 35 yX4_number, Cond.instanceMethod yX4_number, Cond.selects RX4 yX4_number yX4_number, Cond.code yX4_number cX4_number 5 (some .int), Cond.methodLink RX4 39 yX1_add, Cond.instanceMethod yX1_add, Cond.selects RX1 yX1_add yX1_add, Cond.code yX1_add cX1_add 4 none, Cond.fieldLink RX1 18 "TandemExchange$Circle" "size" "I", Cond.methodLink RX1 90 yX3_start]
def wsL_law0_r9 : List Cond := [Cond.instanceMethod yX3_start, Cond.selects RX3 yX3_start yX3_start, Cond.code yX3_start cX3_start 6 none, Cond.fieldLink RX3 21 "TandemExchange$Member" "wants" "I", Cond.fieldLink RX3 25 "TandemExchange$Member" "progress" "I", Cond.fieldLink RX3 28 "TandemExchange$Member" "credits" "I", Cond.fieldLink RX3 31 "TandemExchange$Member" "missed" "I", Cond.fieldLink RX3 34 "TandemExchange$Member" "partner" "I", Cond.fieldLink RX3 37 "TandemExchange$Member" "missedInRow" "I", Cond.methodLink RX5 77 yX2_forget, Cond.instanceMethod yX2_forget, Cond.selects RX2 yX2_forget yX2_forget, Cond.code yX2_forget cX2_forget 1 none, Cond.fieldLink RX2 18 "TandemExchange$History" "count" "I", Cond.methodLink RL 119 yX6_load, Cond.instanceMethod yX6_load, Cond.selects RX6 yX6_load yX6_load, Cond.code yX6_load cX6_load 1 (some .int), Cond.fieldLink RX6 135 "TandemExchangeModel" "acts" "I", Cond.methodLink RX6 131 yX6_copyPage, Cond.static yX6_copyPage, Cond.code yX6_copyPage cX6_copyPage 5 none, Cond.methodLink RL 120 yL_about, Cond.static yL_about]
def wsL_law0_r10 : List Cond := [Cond.codeWith yL_about cL_about 4 (some .int) [(0, 9, 12, 13)], Cond.methodLink RL 21 yX5_about, Cond.instanceMethod yX5_about, Cond.selects RX5 yX5_about yX5_about, Cond.code yX5_about cX5_about 2 (some .int), Cond.fieldLink RX5 86 "TandemExchange$Circle" "weeks" "I", Cond.methodLink RX5 83 yX1_countPairs, Cond.instanceMethod yX1_countPairs, Cond.selects RX1 yX1_countPairs yX1_countPairs, Cond.code yX1_countPairs cX1_countPairs 3 (some .int), Cond.methodLink RX1 81 yX1_greaterPartner, Cond.instanceMethod yX1_greaterPartner, Cond.selects RX1 yX1_greaterPartner yX1_greaterPartner, Cond.code yX1_greaterPartner cX1_greaterPartner 3 (some .int), Cond.fieldLink RX1 29 "TandemExchange$Member" "partner" "I", Cond.methodLink RX1 32 yX1_has, Cond.instanceMethod yX1_has, Cond.selects RX1 yX1_has yX1_has, Cond.code yX1_has cX1_has 2 (some .boolean), Cond.methodLink RX5 89 yX1_sumOfValues, Cond.instanceMethod yX1_sumOfValues, Cond.selects RX1 yX1_sumOfValues yX1_sumOfValues, Cond.code yX1_sumOfValues cX1_sumOfValues 4 (some .int), Cond.methodLink RX1 84 yX1_value]
def wsL_law0_r11 : List Cond := [Cond.instanceMethod yX1_value, Cond.selects RX1 yX1_value yX1_value, Cond.code yX1_value cX1_value 3 (some .int), Cond.methodLink RX1 71 yX1_score, Cond.instanceMethod yX1_score, Cond.selects RX1 yX1_score yX1_score, Cond.code yX1_score cX1_score 4 (some .int), Cond.fieldLink RX1 49 "TandemExchange$Member" "missed" "I", Cond.fieldLink RX1 46 "TandemExchange$Member" "credits" "I", Cond.methodLink RX1 62 yX1_lead, Cond.instanceMethod yX1_lead, Cond.selects RX1 yX1_lead yX1_lead, Cond.code yX1_lead cX1_lead 4 (some .int), Cond.fieldLink RX1 40 "TandemExchange$Member" "wants" "I", Cond.fieldLink RX1 36 "TandemExchange$Member" "levels" "[I", Cond.methodLink RX1 66 yJ9_floorDiv_7cf53, Cond.static yJ9_floorDiv_7cf53, Cond.initialized RJ9, Cond.code yJ9_floorDiv_7cf53 cJ9_floorDiv_7cf53 3 (some .int), Cond.methodLink RX5 92 yX1_countBlocking, Cond.instanceMethod yX1_countBlocking, Cond.selects RX1 yX1_countBlocking yX1_countBlocking, Cond.code yX1_countBlocking cX1_countBlocking 4 (some .int), Cond.methodLink RX1 87 yX1_block]
def wsL_law0_r12 : List Cond := [Cond.instanceMethod yX1_block, Cond.selects RX1 yX1_block yX1_block, Cond.code yX1_block cX1_block 3 (some .boolean), Cond.methodLink RX1 74 yX1_fit, Cond.instanceMethod yX1_fit, Cond.selects RX1 yX1_fit yX1_fit, Cond.code yX1_fit cX1_fit 3 (some .boolean), Cond.methodLink RX1 78 yX1_prefers, Cond.instanceMethod yX1_prefers, Cond.selects RX1 yX1_prefers yX1_prefers, Cond.code yX1_prefers cX1_prefers 4 (some .boolean), Cond.methodLink RX5 95 yX1_sumOfCredits, Cond.instanceMethod yX1_sumOfCredits, Cond.selects RX1 yX1_sumOfCredits yX1_sumOfCredits, Cond.code yX1_sumOfCredits cX1_sumOfCredits 3 (some .int), Cond.methodLink RX5 98 yX1_countFitting, Cond.instanceMethod yX1_countFitting, Cond.selects RX1 yX1_countFitting yX1_countFitting, Cond.code yX1_countFitting cX1_countFitting 3 (some .int), Cond.methodLink RX1 58 yX1_countFittingWith, Cond.instanceMethod yX1_countFittingWith, Cond.selects RX1 yX1_countFittingWith yX1_countFittingWith, Cond.code yX1_countFittingWith cX1_countFittingWith 4 (some .int), Cond.methodLink RL 122 yX6_about]
def wsL_law0_r13 : List Cond := [Cond.instanceMethod yX6_about, Cond.selects RX6 yX6_about yX6_about, Cond.code yX6_about cX6_about 2 (some .int), Cond.constantLong RX6 138 (6), Cond.methodLink RX6 140 yX6_over, Cond.static yX6_over, Cond.code yX6_over cX6_over 6 (some .int), Cond.methodLink RX6 78 yX6_valueOf, Cond.static yX6_valueOf, Cond.code yX6_valueOf cX6_valueOf 3 (some .int), Cond.methodLink RX6 57 yX6_score, Cond.static yX6_score, Cond.code yX6_score cX6_score 3 (some .int), Cond.methodLink RX6 50 yX6_better, Cond.static yX6_better, Cond.code yX6_better cX6_better 4 (some .int), Cond.methodLink RX6 54 yX6_quarter, Cond.static yX6_quarter, Cond.code yX6_quarter cX6_quarter 1 (some .int), Cond.methodLink RX6 85 yX6_block, Cond.static yX6_block, Cond.code yX6_block cX6_block 3 (some .boolean), Cond.methodLink RX6 64 yX6_fit, Cond.static yX6_fit]
def wsL_law0_r14 : List Cond := [Cond.code yX6_fit cX6_fit 3 (some .boolean), Cond.methodLink RX6 68 yX6_prefers, Cond.static yX6_prefers, Cond.code yX6_prefers cX6_prefers 3 (some .boolean), Cond.methodLink RX6 60 yX6_isFree, Cond.static yX6_isFree, Cond.code yX6_isFree cX6_isFree 2 (some .boolean), Cond.methodLink RX6 143 yX6_creditsOf, Cond.static yX6_creditsOf, Cond.code yX6_creditsOf cX6_creditsOf 3 (some .int), Cond.methodLink RL 123 yL_member, Cond.static yL_member, Cond.codeWith yL_member cL_member 5 (some .int) [(0, 10, 13, 28), (0, 10, 17, 13)], Cond.classLink RL 28 "java/lang/IndexOutOfBoundsException", Cond.methodLink RL 24 yX5_member, Cond.instanceMethod yX5_member, Cond.selects RX5 yX5_member yX5_member, Cond.code yX5_member cX5_member 3 (some .int), Cond.methodLink RX5 106 yX5_requireMember, Cond.instanceMethod yX5_requireMember, Cond.selects RX5 yX5_requireMember yX5_requireMember, Cond.code yX5_requireMember cX5_requireMember 2 none, Cond.classLink RX5 255 "java/lang/IndexOutOfBoundsException", Cond.initialized "java/lang/IndexOutOfBoundsException"]
def wsL_law0_r15 : List Cond := [Cond.methodLink RX5 252 yX1_has, Cond.methodLink RX5 110 yX1_numberOf, Cond.instanceMethod yX1_numberOf, Cond.selects RX1 yX1_numberOf yX1_numberOf, Cond.code yX1_numberOf cX1_numberOf 4 (some .int), Cond.fieldLink RX1 43 "TandemExchange$Member" "progress" "I", Cond.fieldLink RX1 55 "TandemExchange$Member" "missedInRow" "I", Cond.methodLink RX1 52 yX1_isFree, Cond.instanceMethod yX1_isFree, Cond.selects RX1 yX1_isFree yX1_isFree, Cond.code yX1_isFree cX1_isFree 2 (some .boolean), Cond.methodLink RL 126 yX6_member, Cond.instanceMethod yX6_member, Cond.selects RX6 yX6_member yX6_member, Cond.code yX6_member cX6_member 3 (some .int), Cond.constantLong RX6 150 (10), Cond.methodLink RX6 147 yX6_isMember, Cond.static yX6_isMember, Cond.code yX6_isMember cX6_isMember 2 (some .boolean), Cond.methodLink RX6 152 yX6_detail, Cond.static yX6_detail, Cond.code yX6_detail cX6_detail 5 (some .int), Cond.methodLink RL 127 yL_both, Cond.static yL_both]
def wsL_law0_r16 : List Cond := [Cond.codeWith yL_both cL_both 6 (some .int) [(0, 12, 15, 28), (0, 12, 19, 13)], Cond.methodLink RL 30 yX5_both, Cond.instanceMethod yX5_both, Cond.selects RX5 yX5_both yX5_both, Cond.code yX5_both cX5_both 4 (some .int), Cond.methodLink RX5 114 yX5_requireTwoMembers, Cond.instanceMethod yX5_requireTwoMembers, Cond.selects RX5 yX5_requireTwoMembers yX5_requireTwoMembers, Cond.code yX5_requireTwoMembers cX5_requireTwoMembers 3 none, Cond.methodLink RX5 118 yX1_score, Cond.methodLink RX5 121 yX1_value, Cond.methodLink RX5 124 yX1_fit, Cond.methodLink RX5 128 yX1_block, Cond.methodLink RL 130 yX6_both, Cond.instanceMethod yX6_both, Cond.selects RX6 yX6_both yX6_both, Cond.code yX6_both cX6_both 4 (some .int), Cond.constantLong RX6 155 (3), Cond.methodLink RL 131 yL_join, Cond.static yL_join, Cond.codeWith yL_join cL_join 6 (some .int) [(0, 12, 15, 13), (0, 12, 19, 15)], Cond.methodLink RL 34 yX5_join, Cond.instanceMethod yX5_join, Cond.selects RX5 yX5_join yX5_join]
def wsL_law0_r17 : List Cond := [Cond.code yX5_join cX5_join 4 (some .int), Cond.methodLink RX5 133 yX5_requireLanguage, Cond.static yX5_requireLanguage, Cond.code yX5_requireLanguage cX5_requireLanguage 1 none, Cond.methodLink RX5 138 yX2_remember, Cond.instanceMethod yX2_remember, Cond.selects RX2 yX2_remember yX2_remember, Cond.code yX2_remember cX2_remember 2 none, Cond.fieldLink RX2 22 "TandemExchange$History" "oldest" "I", Cond.methodLink RX2 25 yX1_copyFrom, Cond.instanceMethod yX1_copyFrom, Cond.selects RX1 yX1_copyFrom yX1_copyFrom, Cond.code yX1_copyFrom cX1_copyFrom 3 none, Cond.fieldLink RX1 26 "TandemExchange$Circle" "weeks" "I", Cond.methodLink RX1 22 yX3_copyFrom, Cond.instanceMethod yX3_copyFrom, Cond.selects RX3 yX3_copyFrom yX3_copyFrom, Cond.code yX3_copyFrom cX3_copyFrom 2 none, Cond.methodLink RX3 15 arraycopyName, Cond.native arraycopyName, Cond.static arraycopyName, Cond.initialized "java/lang/System", Cond.methodLink RX5 141 yX1_add, Cond.methodLink RL 133 yX6_join]
def wsL_law0_r18 : List Cond := [Cond.instanceMethod yX6_join, Cond.selects RX6 yX6_join yX6_join, Cond.code yX6_join cX6_join 8 (some .int), Cond.constantLong RX6 157 (9999), Cond.constantLong RX6 159 (-99), Cond.constantLong RX6 161 (99), Cond.methodLink RX6 163 yX6_note, Cond.instanceMethod yX6_note, Cond.selects RX6 yX6_note yX6_note, Cond.code yX6_note cX6_note 2 none, Cond.methodLink RL 134 yL_leave, Cond.static yL_leave, Cond.codeWith yL_leave cL_leave 4 (some .int) [(0, 9, 12, 28)], Cond.methodLink RL 37 yX5_leave, Cond.instanceMethod yX5_leave, Cond.selects RX5 yX5_leave yX5_leave, Cond.code yX5_leave cX5_leave 3 (some .int), Cond.fieldLink RX5 143 "TandemExchange$Circle" "members" "[LTandemExchange$Member;", Cond.fieldLink RX5 147 "TandemExchange$Member" "credits" "I", Cond.methodLink RX5 152 yX1_remove, Cond.instanceMethod yX1_remove, Cond.selects RX1 yX1_remove yX1_remove, Cond.code yX1_remove cX1_remove 3 none, Cond.methodLink RX1 94 yX1_separate]
def wsL_law0_r19 : List Cond := [Cond.instanceMethod yX1_separate, Cond.selects RX1 yX1_separate yX1_separate, Cond.code yX1_separate cX1_separate 3 none, Cond.methodLink RL 136 yX6_leave, Cond.instanceMethod yX6_leave, Cond.selects RX6 yX6_leave yX6_leave, Cond.code yX6_leave cX6_leave 5 (some .int), Cond.methodLink RX6 75 yX6_partOn, Cond.static yX6_partOn, Cond.code yX6_partOn cX6_partOn 3 none, Cond.methodLink RL 137 yL_want, Cond.static yL_want, Cond.codeWith yL_want cL_want 5 (some .int) [(0, 10, 13, 28), (0, 10, 17, 13)], Cond.methodLink RL 40 yX5_want, Cond.instanceMethod yX5_want, Cond.selects RX5 yX5_want yX5_want, Cond.code yX5_want cX5_want 4 (some .int), Cond.fieldLink RX5 155 "TandemExchange$Member" "wants" "I", Cond.methodLink RX5 158 yX1_changeWish, Cond.instanceMethod yX1_changeWish, Cond.selects RX1 yX1_changeWish yX1_changeWish, Cond.code yX1_changeWish cX1_changeWish 3 none, Cond.methodLink RX1 98 yX1_separateIfUnfit, Cond.instanceMethod yX1_separateIfUnfit]
def wsL_law0_r20 : List Cond := [Cond.selects RX1 yX1_separateIfUnfit yX1_separateIfUnfit, Cond.code yX1_separateIfUnfit cX1_separateIfUnfit 3 none, Cond.methodLink RL 139 yX6_want, Cond.instanceMethod yX6_want, Cond.selects RX6 yX6_want yX6_want, Cond.code yX6_want cX6_want 4 (some .int), Cond.methodLink RX6 166 yX6_isTongue, Cond.static yX6_isTongue, Cond.code yX6_isTongue cX6_isTongue 1 (some .boolean), Cond.methodLink RX6 169 yX6_mend, Cond.static yX6_mend, Cond.code yX6_mend cX6_mend 3 none, Cond.methodLink RL 140 yL_test, Cond.static yL_test, Cond.codeWith yL_test cL_test 6 (some .int) [(0, 12, 15, 28), (0, 12, 19, 13)], Cond.methodLink RL 43 yX5_test, Cond.instanceMethod yX5_test, Cond.selects RX5 yX5_test yX5_test, Cond.code yX5_test cX5_test 5 (some .int), Cond.fieldLink RX5 161 "TandemExchange$Member" "levels" "[I", Cond.methodLink RX5 165 yX1_grade, Cond.instanceMethod yX1_grade, Cond.selects RX1 yX1_grade yX1_grade, Cond.code yX1_grade cX1_grade 5 none]
def wsL_law0_r21 : List Cond := [Cond.methodLink RL 142 yX6_test, Cond.instanceMethod yX6_test, Cond.selects RX6 yX6_test yX6_test, Cond.code yX6_test cX6_test 4 (some .int), Cond.methodLink RX6 172 yX6_testOn, Cond.static yX6_testOn, Cond.code yX6_testOn cX6_testOn 5 (some .int), Cond.methodLink RL 143 yL_pair, Cond.static yL_pair, Cond.codeWith yL_pair cL_pair 5 (some .int) [(0, 10, 13, 28), (0, 10, 17, 13), (0, 10, 21, 15)], Cond.methodLink RL 46 yX5_pair, Cond.instanceMethod yX5_pair, Cond.selects RX5 yX5_pair yX5_pair, Cond.code yX5_pair cX5_pair 3 (some .int), Cond.methodLink RX5 168 yX1_canBecomePartners, Cond.instanceMethod yX1_canBecomePartners, Cond.selects RX1 yX1_canBecomePartners yX1_canBecomePartners, Cond.code yX1_canBecomePartners cX1_canBecomePartners 3 (some .boolean), Cond.methodLink RX5 173 yX1_unite, Cond.instanceMethod yX1_unite, Cond.selects RX1 yX1_unite yX1_unite, Cond.code yX1_unite cX1_unite 3 none, Cond.methodLink RL 145 yX6_pair, Cond.instanceMethod yX6_pair]
def wsL_law0_r22 : List Cond := [Cond.selects RX6 yX6_pair yX6_pair, Cond.code yX6_pair cX6_pair 3 (some .int), Cond.methodLink RX6 176 yX6_canPair, Cond.static yX6_canPair, Cond.code yX6_canPair cX6_canPair 3 (some .boolean), Cond.methodLink RX6 81 yX6_pairOn, Cond.static yX6_pairOn, Cond.code yX6_pairOn cX6_pairOn 3 none, Cond.methodLink RL 146 yL_part, Cond.static yL_part, Cond.codeWith yL_part cL_part 4 (some .int) [(0, 9, 12, 28), (0, 9, 15, 15)], Cond.methodLink RL 49 yX5_part, Cond.instanceMethod yX5_part, Cond.selects RX5 yX5_part yX5_part, Cond.code yX5_part cX5_part 3 (some .int), Cond.fieldLink RX5 179 "TandemExchange$Member" "partner" "I", Cond.methodLink RX5 176 yX5_requirePartner, Cond.instanceMethod yX5_requirePartner, Cond.selects RX5 yX5_requirePartner yX5_requirePartner, Cond.code yX5_requirePartner cX5_requirePartner 2 none, Cond.methodLink RX5 205 yX1_isFree, Cond.methodLink RX5 182 yX1_separate, Cond.methodLink RL 148 yX6_part, Cond.instanceMethod yX6_part]
def wsL_law0_r23 : List Cond := [Cond.selects RX6 yX6_part yX6_part, Cond.code yX6_part cX6_part 3 (some .int), Cond.methodLink RL 149 yX5_match, Cond.instanceMethod yX5_match, Cond.selects RX5 yX5_match yX5_match, Cond.code yX5_match cX5_match 1 (some .int), Cond.methodLink RX5 185 yX1_matchFree, Cond.instanceMethod yX1_matchFree, Cond.selects RX1 yX1_matchFree yX1_matchFree, Cond.code yX1_matchFree cX1_matchFree 2 (some .int), Cond.methodLink RX1 101 yX1_uniteBestFreePair, Cond.instanceMethod yX1_uniteBestFreePair, Cond.selects RX1 yX1_uniteBestFreePair yX1_uniteBestFreePair, Cond.code yX1_uniteBestFreePair cX1_uniteBestFreePair 6 (some .boolean), Cond.methodLink RX1 105 yX1_canBecomePartners, Cond.methodLink RX1 108 yX1_unite, Cond.methodLink RL 152 yX6_match, Cond.instanceMethod yX6_match, Cond.selects RX6 yX6_match yX6_match, Cond.code yX6_match cX6_match 1 (some .int), Cond.methodLink RX6 179 yX6_matchOn, Cond.static yX6_matchOn, Cond.code yX6_matchOn cX6_matchOn 8 (some .int), Cond.methodLink RL 153 yL_settle]
def wsL_law0_r24 : List Cond := [Cond.static yL_settle, Cond.codeWith yL_settle cL_settle 4 (some .int) [(0, 9, 12, 13)], Cond.methodLink RL 52 yX5_settle, Cond.instanceMethod yX5_settle, Cond.selects RX5 yX5_settle yX5_settle, Cond.code yX5_settle cX5_settle 2 (some .int), Cond.methodLink RX5 188 yX1_settleBy, Cond.instanceMethod yX1_settleBy, Cond.selects RX1 yX1_settleBy yX1_settleBy, Cond.code yX1_settleBy cX1_settleBy 3 (some .int), Cond.methodLink RX1 112 yX1_uniteFirstBlockingPair, Cond.instanceMethod yX1_uniteFirstBlockingPair, Cond.selects RX1 yX1_uniteFirstBlockingPair yX1_uniteFirstBlockingPair, Cond.code yX1_uniteFirstBlockingPair cX1_uniteFirstBlockingPair 3 (some .boolean), Cond.methodLink RL 155 yX6_settle, Cond.instanceMethod yX6_settle, Cond.selects RX6 yX6_settle yX6_settle, Cond.code yX6_settle cX6_settle 2 (some .int), Cond.constantLong RX6 182 (50), Cond.methodLink RX6 184 yX6_settleOn, Cond.static yX6_settleOn, Cond.code yX6_settleOn cX6_settleOn 4 (some .int), Cond.methodLink RX6 88 yX6_blockAt, Cond.static yX6_blockAt]
def wsL_law0_r25 : List Cond := [Cond.code yX6_blockAt cX6_blockAt 5 (some .int), Cond.methodLink RL 156 yL_week, Cond.static yL_week, Cond.codeWith yL_week cL_week 4 (some .int) [(0, 9, 12, 13)], Cond.methodLink RL 55 yX5_week, Cond.instanceMethod yX5_week, Cond.selects RX5 yX5_week yX5_week, Cond.code yX5_week cX5_week 2 (some .int), Cond.methodLink RX5 192 yX1_passWeek, Cond.instanceMethod yX1_passWeek, Cond.selects RX1 yX1_passWeek yX1_passWeek, Cond.code yX1_passWeek cX1_passWeek 4 none, Cond.methodLink RX1 115 yX1_passWeekOfPair, Cond.instanceMethod yX1_passWeekOfPair, Cond.selects RX1 yX1_passWeekOfPair yX1_passWeekOfPair, Cond.code yX1_passWeekOfPair cX1_passWeekOfPair 8 none, Cond.methodLink RX1 118 yX3_failToMeet, Cond.instanceMethod yX3_failToMeet, Cond.selects RX3 yX3_failToMeet yX3_failToMeet, Cond.code yX3_failToMeet cX3_failToMeet 2 none, Cond.methodLink RX3 49 yX3_gainCredits, Cond.instanceMethod yX3_gainCredits, Cond.selects RX3 yX3_gainCredits yX3_gainCredits, Cond.code yX3_gainCredits cX3_gainCredits 2 none]
def wsL_law0_r26 : List Cond := [Cond.methodLink RX3 40 Lib.Math.min.name, Cond.static Lib.Math.min.name, Cond.initialized "java/lang/Math", Cond.code Lib.Math.min.name Lib.Math.min.code 2 (some .int), Cond.methodLink RX3 46 Lib.Math.max.name, Cond.static Lib.Math.max.name, Cond.code Lib.Math.max.name Lib.Math.max.code 2 (some .int), Cond.methodLink RX1 122 yX1_pointsOfMeeting, Cond.instanceMethod yX1_pointsOfMeeting, Cond.selects RX1 yX1_pointsOfMeeting yX1_pointsOfMeeting, Cond.code yX1_pointsOfMeeting cX1_pointsOfMeeting 3 (some .int), Cond.methodLink RX1 128 Lib.Math.max.name, Cond.methodLink RX1 125 yX3_meet, Cond.instanceMethod yX3_meet, Cond.selects RX3 yX3_meet yX3_meet, Cond.code yX3_meet cX3_meet 2 none, Cond.methodLink RX3 53 yX3_learn, Cond.instanceMethod yX3_learn, Cond.selects RX3 yX3_learn yX3_learn, Cond.code yX3_learn cX3_learn 2 none, Cond.methodLink RL 158 yX6_week, Cond.instanceMethod yX6_week, Cond.selects RX6 yX6_week yX6_week, Cond.code yX6_week cX6_week 2 (some .int)]
def wsL_law0_r27 : List Cond := [Cond.methodLink RX6 189 yX6_isAbsent, Cond.static yX6_isAbsent, Cond.code yX6_isAbsent cX6_isAbsent 1 (some .boolean), Cond.constantLong RX6 187 (511), Cond.methodLink RX6 192 yX6_weekOn, Cond.static yX6_weekOn, Cond.code yX6_weekOn cX6_weekOn 4 none, Cond.methodLink RX6 102 yX6_meet, Cond.static yX6_meet, Cond.code yX6_meet cX6_meet 8 none, Cond.methodLink RX6 95 yX6_miss, Cond.static yX6_miss, Cond.code yX6_miss cX6_miss 3 none, Cond.methodLink RX6 92 yX6_credit, Cond.static yX6_credit, Cond.code yX6_credit cX6_credit 4 none, Cond.methodLink RX6 99 yX6_learn, Cond.static yX6_learn, Cond.code yX6_learn cX6_learn 5 none, Cond.methodLink RL 159 yL_undo, Cond.static yL_undo, Cond.codeWith yL_undo cL_undo 3 (some .int) [(0, 8, 11, 15)], Cond.methodLink RL 58 yX5_undo, Cond.instanceMethod yX5_undo]
def wsL_law0_r28 : List Cond := [Cond.selects RX5 yX5_undo yX5_undo, Cond.code yX5_undo cX5_undo 1 (some .int), Cond.fieldLink RX5 195 "TandemExchange$History" "count" "I", Cond.methodLink RX5 200 yX2_takeBack, Cond.instanceMethod yX2_takeBack, Cond.selects RX2 yX2_takeBack yX2_takeBack, Cond.code yX2_takeBack cX2_takeBack 2 none, Cond.methodLink RL 161 yX6_undo, Cond.instanceMethod yX6_undo, Cond.selects RX6 yX6_undo yX6_undo, Cond.code yX6_undo cX6_undo 1 (some .int), Cond.methodLink RL 162 yL_blocking, Cond.static yL_blocking, Cond.codeWith yL_blocking cL_blocking 5 (some .int) [(0, 10, 13, 13)], Cond.methodLink RL 61 yX5_blocking, Cond.instanceMethod yX5_blocking, Cond.selects RX5 yX5_blocking yX5_blocking, Cond.code yX5_blocking cX5_blocking 6 (some .int), Cond.methodLink RL 165 yX6_blocking, Cond.instanceMethod yX6_blocking, Cond.selects RX6 yX6_blocking yX6_blocking, Cond.code yX6_blocking cX6_blocking 4 (some .int), Cond.methodLink RL 166 yL_bestPartner, Cond.static yL_bestPartner]
def wsL_law0_r29 : List Cond := [Cond.codeWith yL_bestPartner cL_bestPartner 5 (some .int) [(0, 10, 13, 28)], Cond.methodLink RL 65 yX5_bestPartner, Cond.instanceMethod yX5_bestPartner, Cond.selects RX5 yX5_bestPartner yX5_bestPartner, Cond.code yX5_bestPartner cX5_bestPartner 7 (some .int), Cond.methodLink RL 168 yX6_bestPartner, Cond.instanceMethod yX6_bestPartner, Cond.selects RX6 yX6_bestPartner yX6_bestPartner, Cond.code yX6_bestPartner cX6_bestPartner 6 (some .int), Cond.methodLink RL 169 yL_best, Cond.static yL_best, Cond.codeWith yL_best cL_best 4 (some .int) [(0, 9, 12, 13)], Cond.methodLink RL 68 yX5_best, Cond.instanceMethod yX5_best, Cond.selects RX5 yX5_best yX5_best, Cond.code yX5_best cX5_best 3 (some .int), Cond.methodLink RX5 209 yX0_fill, Cond.instanceMethod yX0_fill, Cond.selects RX0 yX0_fill yX0_fill, Cond.code yX0_fill cX0_fill 5 none, Cond.fieldLink RX0 15 "TandemExchange$Circle" "size" "I", Cond.methodLink RX0 21 yX0_rankWith, Cond.instanceMethod yX0_rankWith, Cond.selects RX0 yX0_rankWith yX0_rankWith]
def wsL_law0_r30 : List Cond := [Cond.code yX0_rankWith cX0_rankWith 7 (some .int), Cond.constant RX0 29 (1000000), Cond.methodLink RX0 34 Lib.Math.max.name, Cond.methodLink RX0 25 yX1_fit, Cond.methodLink RX0 30 yX1_value, Cond.methodLink RX5 212 yX0_rankOfAll, Cond.instanceMethod yX0_rankOfAll, Cond.selects RX0 yX0_rankOfAll yX0_rankOfAll, Cond.code yX0_rankOfAll cX0_rankOfAll 2 (some .int), Cond.methodLink RX5 216 yX0_pairsOf, Cond.instanceMethod yX0_pairsOf, Cond.selects RX0 yX0_pairsOf yX0_pairsOf, Cond.code yX0_pairsOf cX0_pairsOf 2 (some .int), Cond.constant RX0 39 (500000), Cond.methodLink RX0 40 yJ9_floorDiv_7cf53, Cond.methodLink RX5 219 yX0_sumOf, Cond.instanceMethod yX0_sumOf, Cond.selects RX0 yX0_sumOf yX0_sumOf, Cond.code yX0_sumOf cX0_sumOf 2 (some .int), Cond.methodLink RX0 43 yX0_pairsOf, Cond.methodLink RL 171 yX6_best, Cond.instanceMethod yX6_best, Cond.selects RX6 yX6_best yX6_best, Cond.code yX6_best cX6_best 3 (some .int)]
def wsL_law0_r31 : List Cond := [Cond.methodLink RX6 195 yX6_laySets, Cond.instanceMethod yX6_laySets, Cond.selects RX6 yX6_laySets yX6_laySets, Cond.code yX6_laySets cX6_laySets 10 none, Cond.methodLink RL 172 yX5_missedMost, Cond.instanceMethod yX5_missedMost, Cond.selects RX5 yX5_missedMost yX5_missedMost, Cond.code yX5_missedMost cX5_missedMost 5 (some .int), Cond.methodLink RX5 222 yX0_rankWithout, Cond.instanceMethod yX0_rankWithout, Cond.selects RX0 yX0_rankWithout yX0_rankWithout, Cond.code yX0_rankWithout cX0_rankWithout 3 (some .int), Cond.methodLink RL 175 yX6_missedMost, Cond.instanceMethod yX6_missedMost, Cond.selects RX6 yX6_missedMost yX6_missedMost, Cond.code yX6_missedMost cX6_missedMost 7 (some .int), Cond.methodLink RL 176 yL_ahead, Cond.static yL_ahead, Cond.codeWith yL_ahead cL_ahead 7 (some .int) [(0, 14, 17, 28), (0, 14, 21, 13)], Cond.methodLink RL 71 yX5_ahead, Cond.instanceMethod yX5_ahead, Cond.selects RX5 yX5_ahead yX5_ahead, Cond.code yX5_ahead cX5_ahead 6 (some .int), Cond.methodLink RX5 226 yX1_copyFrom]
def wsL_law0_r32 : List Cond := [Cond.methodLink RL 179 yX6_ahead, Cond.instanceMethod yX6_ahead, Cond.selects RX6 yX6_ahead yX6_ahead, Cond.code yX6_ahead cX6_ahead 6 (some .int), Cond.constantLong RX6 199 (60), Cond.methodLink RL 180 yL_levelAfter, Cond.static yL_levelAfter, Cond.codeWith yL_levelAfter cL_levelAfter 5 (some .int) [(0, 10, 13, 28), (0, 10, 17, 13)], Cond.methodLink RL 75 yX5_levelAfter, Cond.instanceMethod yX5_levelAfter, Cond.selects RX5 yX5_levelAfter yX5_levelAfter, Cond.code yX5_levelAfter cX5_levelAfter 4 (some .int), Cond.methodLink RX5 229 yX3_wantedLevel, Cond.instanceMethod yX3_wantedLevel, Cond.selects RX3 yX3_wantedLevel yX3_wantedLevel, Cond.code yX3_wantedLevel cX3_wantedLevel 1 (some .int), Cond.methodLink RL 182 yX6_levelAfter, Cond.instanceMethod yX6_levelAfter, Cond.selects RX6 yX6_levelAfter yX6_levelAfter, Cond.code yX6_levelAfter cX6_levelAfter 4 (some .int), Cond.constantLong RX6 201 (9), Cond.methodLink RL 183 yL_partsAfter, Cond.static yL_partsAfter, Cond.codeWith yL_partsAfter cL_partsAfter 5 (some .int) [(0, 10, 13, 28), (0, 10, 17, 13), (0, 10, 21, 15)]]
def wsL_law0_r33 : List Cond := [Cond.methodLink RL 78 yX5_partsAfter, Cond.instanceMethod yX5_partsAfter, Cond.selects RX5 yX5_partsAfter yX5_partsAfter, Cond.code yX5_partsAfter cX5_partsAfter 4 (some .int), Cond.methodLink RL 185 yX6_partsAfter, Cond.instanceMethod yX6_partsAfter, Cond.selects RX6 yX6_partsAfter yX6_partsAfter, Cond.code yX6_partsAfter cX6_partsAfter 4 (some .int), Cond.methodLink RL 188 yL_runScript, Cond.static yL_runScript, Cond.codeWith yL_runScript cL_runScript 6 (some .int) [(0, 11, 14, 13)], Cond.methodLink RL 81 yX5_runScript, Cond.instanceMethod yX5_runScript, Cond.selects RX5 yX5_runScript yX5_runScript, Cond.code yX5_runScript cX5_runScript 6 (some .int), Cond.constantLong RX5 238 (10000), Cond.methodLink RX5 232 yX5_withoutLowestGroups, Cond.static yX5_withoutLowestGroups, Cond.code yX5_withoutLowestGroups cX5_withoutLowestGroups 6 (some .long), Cond.methodLink RX5 240 yX5_commandSucceeds, Cond.instanceMethod yX5_commandSucceeds, Cond.selects RX5 yX5_commandSucceeds yX5_commandSucceeds, Cond.code yX5_commandSucceeds cX5_commandSucceeds 7 (some .boolean), Cond.methodLink RL 191 yX6_runScript]
def wsL_law0_r34 : List Cond := [Cond.instanceMethod yX6_runScript, Cond.selects RX6 yX6_runScript yX6_runScript, Cond.code yX6_runScript cX6_runScript 10 (some .int), Cond.constantLong RX6 203 (10000), Cond.constantLong RX6 205 (4), Cond.methodLink RX6 207 yX6_does, Cond.instanceMethod yX6_does, Cond.selects RX6 yX6_does yX6_does, Cond.code yX6_does cX6_does 8 (some .boolean), Cond.methodLink RL 192 yL_simulate, Cond.static yL_simulate, Cond.codeWith yL_simulate cL_simulate 6 (some .int) [(0, 11, 14, 13)], Cond.methodLink RL 85 yX5_simulate, Cond.instanceMethod yX5_simulate, Cond.selects RX5 yX5_simulate yX5_simulate, Cond.code yX5_simulate cX5_simulate 8 (some .int), Cond.constantLong RX5 243 (6364136223846793005), Cond.constantLong RX5 245 (1442695040888963407), Cond.methodLink RL 195 yX6_simulate, Cond.instanceMethod yX6_simulate, Cond.selects RX6 yX6_simulate yX6_simulate, Cond.code yX6_simulate cX6_simulate 9 (some .int), Cond.constantLong RX6 211 (6364136223846793005), Cond.constantLong RX6 213 (1442695040888963407)]
def wsL_law0_r35 : List Cond := [Cond.methodLink RL 196 yL_save, Cond.static yL_save, Cond.codeWith yL_save cL_save 4 (some .int) [(0, 9, 12, 28)], Cond.methodLink RL 89 yX5_save, Cond.instanceMethod yX5_save, Cond.selects RX5 yX5_save yX5_save, Cond.code yX5_save cX5_save 2 (some .int), Cond.methodLink RX5 247 yX5_requireSlot, Cond.static yX5_requireSlot, Cond.code yX5_requireSlot cX5_requireSlot 1 none, Cond.methodLink RL 198 yX6_save, Cond.instanceMethod yX6_save, Cond.selects RX6 yX6_save yX6_save, Cond.code yX6_save cX6_save 2 (some .int), Cond.methodLink RL 199 yL_restore, Cond.static yL_restore, Cond.codeWith yL_restore cL_restore 4 (some .int) [(0, 9, 12, 28), (0, 9, 15, 15)], Cond.methodLink RL 92 yX5_restore, Cond.instanceMethod yX5_restore, Cond.selects RX5 yX5_restore yX5_restore, Cond.code yX5_restore cX5_restore 2 (some .int), Cond.methodLink RL 201 yX6_restore, Cond.instanceMethod yX6_restore, Cond.selects RX6 yX6_restore yX6_restore]
def wsL_law0_r36 : List Cond := [Cond.code yX6_restore cX6_restore 2 (some .int)]
def wsL_law0 : List Cond := (wsL_law0_r1 ++ (wsL_law0_r2 ++ (wsL_law0_r3 ++ (wsL_law0_r4 ++ (wsL_law0_r5 ++ (wsL_law0_r6 ++ (wsL_law0_r7 ++ (wsL_law0_r8 ++ (wsL_law0_r9 ++ (wsL_law0_r10 ++ (wsL_law0_r11 ++ (wsL_law0_r12 ++ (wsL_law0_r13 ++ (wsL_law0_r14 ++ (wsL_law0_r15 ++ (wsL_law0_r16 ++ (wsL_law0_r17 ++ (wsL_law0_r18 ++ (wsL_law0_r19 ++ (wsL_law0_r20 ++ (wsL_law0_r21 ++ (wsL_law0_r22 ++ (wsL_law0_r23 ++ (wsL_law0_r24 ++ (wsL_law0_r25 ++ (wsL_law0_r26 ++ (wsL_law0_r27 ++ (wsL_law0_r28 ++ (wsL_law0_r29 ++ (wsL_law0_r30 ++ (wsL_law0_r31 ++ (wsL_law0_r32 ++ (wsL_law0_r33 ++ (wsL_law0_r34 ++ (wsL_law0_r35 ++ wsL_law0_r36))))))))))))))))))))))))))))))))))) ++ wsX50 ++ wsX60 ++ wsX40 ++ wsX10 ++ wsX20 ++ wsX00 ++ wsX30 ++ ([] : List Cond)
def wsL_law : List Cond := wsL_law0 ++ (vx_atS RX5 60 "java/lang/IllegalStateException" ["java/lang/RuntimeException", "java/lang/Exception"]).filter goodWord ++ (vx_atS RX5 105 "java/lang/IllegalArgumentException" ["java/lang/RuntimeException", "java/lang/Exception"]).filter goodWord ++ (vx_atS RX5 259 "java/lang/IndexOutOfBoundsException" ["java/lang/RuntimeException", "java/lang/Exception"]).filter goodWord
abbrev vwCl : List vw_C := [(RX0, TX0, 1), (RX1, TX1, 3), (RX2, TX2, 3), (RX3, TX3, 7), (RX4, TX4, 2), (RX5, TX5, 7), (RX6, TX6, 13)]
end
section
/-! THE STATE: all numbers that the system holds, as one function; the world that tells where they lie -/
abbrev teS : Type := Nat → Nat → Int32
def teu (S : teS) (k j : Nat) (v : Int32) : teS := fun a b => if a = k ∧ b = j then v else S a b
theorem teu_s (S : teS) (k j : Nat) (v : Int32) : teu S k j v k j = v := by simp [teu]
theorem teu_n (S : teS) {k j a b : Nat} (v : Int32) (h : a = k → b ≠ j) : teu S k j v a b = S a b := by
  unfold teu
  rw [if_neg]
  rintro ⟨h1, h2⟩
  exact h h1 h2
def tein (i : Int32) (n : Nat) : Bool := decide (¬ i < 0) && decide (i.toNatClampNeg < n)
theorem tein_in {i : Int32} {n : Nat} (h : tein i n = true) : vp_in i n := by
  simp only [tein, Bool.and_eq_true, decide_eq_true_eq] at h
  rintro (q | q)
  · exact h.1 q
  · omega
theorem tein_lt {i : Int32} {n : Nat} (h : tein i n = true) : i.toNatClampNeg < n := by
  simp only [tein, Bool.and_eq_true, decide_eq_true_eq] at h
  exact h.2
def chk {α : Type} (b : Bool) (x : Option α) : Option α := if b = true then x else none
theorem chk_some {α : Type} {b : Bool} {x : Option α} {r : α} (h : chk b x = some r) : b = true ∧ x = some r := by
  unfold chk at h
  split at h
  · exact ⟨by assumption, h⟩
  · cases h
def bd1 {α β : Type} (x : Option α) (k : α → Option β) : Option β := match x with
  | none => none
  | some a => k a
theorem bd1_some {α β : Type} {x : Option α} {k : α → Option β} {r : β} (h : bd1 x k = some r) : ∃ a, x = some a ∧ k a = some r := by
  cases x with
  | none => cases h
  | some a => exact ⟨a, rfl, h⟩
def bd2 {α γ β : Type} (x : Option (α × γ)) (k : α → γ → Option β) : Option β := match x with
  | none => none
  | some a => k a.1 a.2
theorem bd2_some {α γ β : Type} {x : Option (α × γ)} {k : α → γ → Option β} {r : β} (h : bd2 x k = some r) : ∃ a b, x = some (a, b) ∧ k a b = some r := by
  cases x with
  | none => cases h
  | some a => exact ⟨a.1, a.2, rfl, h⟩
/-- a call that may throw (the number of the exception on the left) -/
def bx1 {α β : Type} (x : Option (Nat ⊕ α)) (k : α → Option (Nat ⊕ β)) : Option (Nat ⊕ β) := match x with
  | none => none
  | some (.inl c) => some (.inl c)
  | some (.inr a) => k a
theorem bx1_some {α β : Type} {x : Option (Nat ⊕ α)} {k : α → Option (Nat ⊕ β)} {r : Nat ⊕ β} (h : bx1 x k = some r) : (∃ c, x = some (.inl c) ∧ r = .inl c) ∨ ∃ a, x = some (.inr a) ∧ k a = some r := by
  match x, h with
  | some (.inl c), h => exact Or.inl ⟨c, rfl, (Option.some.inj h).symm⟩
  | some (.inr a), h => exact Or.inr ⟨a, rfl, h⟩
theorem ite_t {c : Prop} [Decidable c] {α : Type} {a b r : α} (h : c) (hf : (if c then a else b) = r) : a = r := by rw [if_pos h] at hf; exact hf
theorem ite_f {c : Prop} [Decidable c] {α : Type} {a b r : α} (h : ¬ c) (hf : (if c then a else b) = r) : b = r := by rw [if_neg h] at hf; exact hf
/-- the classes of arrays, and what they hold -/
abbrev teT (cy : Nat → ClassId) : List (ClassId × FieldType) := [(cy 0, .int), (cy 1, .char), (cy 2, .boolean), (cy 3, .long), (cy 4, .object "TandemExchange$Circle"), (cy 5, .object "TandemExchange$Member")]
/-- the length of a row of ints by its number (0: no such row) -/
def teI (i : Nat) : Nat := match i with
  | 368 => 512
  | 370 => 90
  | 371 => 92
  | 372 => 92
  | 373 => 92
  | 374 => 1288
  | 375 => 184
  | 377 => 512
  | 378 => 512
  | _ => 0
/-- the cell of the thing number i -/
def teE (cy : Nat → ClassId) (ad : Nat → Nat) (O : Int64) (S : teS) (i : Nat) : va_E :=
  if i < 360 then
    if i % 20 = 0 then .inr (1, [.ref (ad (i + 1)), .int (S (i / 20) 0), .int (S (i / 20) 1)])
    else if i % 20 = 1 then .inl (cy 5, 9, .inr (.inr (.inr (.inr fun j => some (ad (i + 1 + j))))))
    else if i % 20 < 11 then .inr (3, [.ref (ad (i + 9)), .int (S (i / 20) (2 + 10 * (i % 20 - 2) + 4)), .int (S (i / 20) (2 + 10 * (i % 20 - 2) + 5)), .int (S (i / 20) (2 + 10 * (i % 20 - 2) + 6)), .int (S (i / 20) (2 + 10 * (i % 20 - 2) + 7)), .int (S (i / 20) (2 + 10 * (i % 20 - 2) + 8)), .int (S (i / 20) (2 + 10 * (i % 20 - 2) + 9))])
    else .inl (cy 0, 4, .inl fun j => if j < 4 then S (i / 20) (2 + 10 * (i % 20 - 11) + j) else 0)
  else match i with
    | 360 => .inr (5, [.ref (ad 361), .ref (ad (20 * 0)), .ref (ad (20 * 1)), .ref (ad 363), .ref (ad 365), .ref (ad 366), .ref (ad 367)])
    | 361 => .inr (4, [.ref (ad 362), .int (S 361 0)])
    | 362 => .inl (cy 1, 90, .inl (S 362))
    | 363 => .inr (2, [.ref (ad 364), .int (S 363 0), .int (S 363 1)])
    | 364 => .inl (cy 4, 14, .inr (.inr (.inr (.inr fun j => some (ad (20 * (2 + j)))))))
    | 365 => .inl (cy 4, 2, .inr (.inr (.inr (.inr fun j => some (ad (20 * (16 + j)))))))
    | 366 => .inl (cy 2, 2, .inl (S 366))
    | 367 => .inr (0, [.ref (ad 368)])
    | 369 => .inr (6, [.int (S 369 0), .ref (ad 370), .int (S 369 1), .int (S 369 2), .ref (ad 371), .ref (ad 372), .ref (ad 373), .ref (ad 374), .int (S 369 3), .ref (ad 375), .ref (ad 376), .ref (ad 377), .ref (ad 378)])
    | 376 => .inl (cy 2, 2, .inl (S 376))
    | 379 => .inl (cy 3, 1, .inr (.inl fun _ => O))
    | n => .inl (cy 0, teI n, .inl (S n))
abbrev teA (ba : Nat) : Nat → Prop := fun q => ba ≤ q
/-- the whole system's world in the heap H -/
def teR (D : va_G) (cy : Nat → ClassId) (ad : Nat → Nat) (ba : Nat) (O : Int64) (S : teS) (H : Heap) : Prop :=
  ∃ (L : List Nat) (f : Nat → va_E), va_P D vwCl ([] ++ va_pl L f) H ∧ va_D (teA ba) ([] ++ va_pl L f) ∧ (∀ i, i < 380 → ad i ∈ L ∧ f (ad i) = teE cy ad O S i) ∧ (∀ i j, i < 380 → j < 380 → ad i = ad j → i = j) ∧ ba ≤ H.size
/-- the texts of the exceptions: their places in the class file -/
def teX : List (Nat × String) := [(58, "the text is full"), (71, "the text is not as described"), (103, "what is not 0 to 6"), (131, "what is not 0 to 3"), (136, "the circle is full"), (171, "one of them has a partner, or they do not fit"), (198, "no state is remembered"), (203, "i is negative"), (236, "the script is negative or too long"), (250, "nothing has been saved in the slot"), (257, "there is no such member"), (260, "the members are the same"), (262, "the member has no partner"), (264, "an argument is out of its range"), (266, "there is no such save slot")]
/-- what a throw rests on: the statics of Throwable, the classes of the exceptions, their texts -/
def teF (ba : Nat) (s : State) (H : Heap) : Prop :=
  vx_Zq Bundle.tN "UNASSIGNED_STACK" Bundle.steD (teA ba) s H ∧ vx_Zq Bundle.tN "SUPPRESSED_SENTINEL" Bundle.listD (teA ba) s H ∧
  (va_Nw (.castable "java/lang/IllegalArgumentException" "java/lang/IllegalArgumentException") s ∧ va_Nw (.castable "java/lang/IllegalStateException" "java/lang/IllegalStateException") s ∧ va_Nw (.castable "java/lang/IndexOutOfBoundsException" "java/lang/IndexOutOfBoundsException") s) ∧
  (∀ q ∈ teX, ∃ sa, vk_R "TandemExchange" q.1 q.2 sa s) ∧ ba ≤ H.size
/-- what holds before and behind each method: the tables, the world -/
def teU (D : va_G) (cy : Nat → ClassId) (ad : Nat → Nat) (ba : Nat) (O : Int64) (S : teS) (U : State) : Prop :=
  va_K D vwCl (teT cy) U ∧ teF ba U U.heap ∧ teR D cy ad ba O S U.heap
/-- what holds all through a method's body -/
def teC (Ts : List Cond) (own : String) (cc : ByteArray) (nL : Nat) (ret : Option FieldType) (D : va_G) (cy : Nat → ClassId) (ba : Nat) (p : Program) (s : State) (m : MethodId) (args : Array Value) (meth : Method) (c : Code) : Prop :=
  p.tables.exec = Jvm.exec ∧ c.code = cc ∧ c.maxLocals = nL ∧ meth.sig.returnType = ret ∧ s.vm.findClass own = some m.cls ∧ (∀ w ∈ Ts, w.before args s = true) ∧ meth.locks = false ∧ va_K D vwCl (teT cy) s ∧ teF ba s s.heap
theorem teF_kept {ba : Nat} {s : State} {H H1 : Heap} (h : teF ba s H) (hz : H.size ≤ H1.size) (hq : ∀ a : Nat, a < H.size → ¬ teA ba a → H1[a]? = H[a]?) : teF ba s H1 :=
  ⟨h.1.kept hq, h.2.1.kept hq, h.2.2.1, h.2.2.2.1, Nat.le_trans h.2.2.2.2 hz⟩
theorem teF_moved {ba : Nat} {s U : State} {H : Heap} (hW : s.WarmedH U.vm) (h : teF ba s H) : teF ba U H :=
  ⟨h.1.moved hW.alike, h.2.1.moved hW.alike, ⟨h.2.2.1.1.warmC hW, h.2.2.1.2.1.warmC hW, h.2.2.1.2.2.warmC hW⟩, fun q hq => (h.2.2.2.1 q hq).elim fun sa z => ⟨sa, z.warm hW⟩, h.2.2.2.2⟩
theorem teF_S {ba : Nat} {s : State} {H : Heap} {locs : List Loc} (h : teF ba s s.heap) (hS : va_S (teA ba) s.heap H locs) : teF ba s H :=
  teF_kept h hS.1 hS.2.1

/-- a cell that speaks of none of the changed numbers is the same -/
theorem teE_circ (cy : Nat → ClassId) (ad : Nat → Nat) (O : Int64) (S : teS) {k : Nat} (hk : k < 18) : teE cy ad O S (20 * k) = .inr (1, [.ref (ad (20 * k + 1)), .int (S k 0), .int (S k 1)]) := by
  have h1 : 20 * k < 360 := by omega
  have h2 : 20 * k % 20 = 0 := by omega
  have h3 : 20 * k / 20 = k := by omega
  unfold teE
  rw [if_pos h1, if_pos h2, h3]
theorem teE_mems (cy : Nat → ClassId) (ad : Nat → Nat) (O : Int64) (S : teS) {k : Nat} (hk : k < 18) : teE cy ad O S (20 * k + 1) = .inl (cy 5, 9, .inr (.inr (.inr (.inr fun j => some (ad (20 * k + 2 + j)))))) := by
  have h1 : 20 * k + 1 < 360 := by omega
  have h2 : ¬ (20 * k + 1) % 20 = 0 := by omega
  have h3 : (20 * k + 1) % 20 = 1 := by omega
  unfold teE
  rw [if_pos h1, if_neg h2, if_pos h3]
theorem teE_memb (cy : Nat → ClassId) (ad : Nat → Nat) (O : Int64) (S : teS) {k a : Nat} (hk : k < 18) (ha : a < 9) : teE cy ad O S (20 * k + 2 + a) = .inr (3, [.ref (ad (20 * k + 11 + a)), .int (S k (2 + 10 * a + 4)), .int (S k (2 + 10 * a + 5)), .int (S k (2 + 10 * a + 6)), .int (S k (2 + 10 * a + 7)), .int (S k (2 + 10 * a + 8)), .int (S k (2 + 10 * a + 9))]) := by
  have h1 : 20 * k + 2 + a < 360 := by omega
  have h2 : ¬ (20 * k + 2 + a) % 20 = 0 := by omega
  have h3 : ¬ (20 * k + 2 + a) % 20 = 1 := by omega
  have h4 : (20 * k + 2 + a) % 20 < 11 := by omega
  have h5 : (20 * k + 2 + a) / 20 = k := by omega
  have h6 : (20 * k + 2 + a) % 20 - 2 = a := by omega
  have h7 : 20 * k + 2 + a + 9 = 20 * k + 11 + a := by omega
  unfold teE
  rw [if_pos h1, if_neg h2, if_neg h3, if_pos h4, h5, h6, h7]
theorem teE_levs (cy : Nat → ClassId) (ad : Nat → Nat) (O : Int64) (S : teS) {k a : Nat} (hk : k < 18) (ha : a < 9) : teE cy ad O S (20 * k + 11 + a) = .inl (cy 0, 4, .inl fun j => if j < 4 then S k (2 + 10 * a + j) else 0) := by
  have h1 : 20 * k + 11 + a < 360 := by omega
  have h2 : ¬ (20 * k + 11 + a) % 20 = 0 := by omega
  have h3 : ¬ (20 * k + 11 + a) % 20 = 1 := by omega
  have h4 : ¬ (20 * k + 11 + a) % 20 < 11 := by omega
  have h5 : (20 * k + 11 + a) / 20 = k := by omega
  have h6 : (20 * k + 11 + a) % 20 - 11 = a := by omega
  unfold teE
  rw [if_pos h1, if_neg h2, if_neg h3, if_neg h4, h5, h6]
/-- a number that cell i tells -/
def teW (i k j : Nat) : Prop := if i < 360 then k = i / 20 ∧ ((i % 20 = 0 ∧ j < 2) ∨ (2 ≤ i % 20 ∧ i % 20 < 11 ∧ 2 + 10 * (i % 20 - 2) + 4 ≤ j ∧ j < 2 + 10 * (i % 20 - 2) + 10) ∨ (11 ≤ i % 20 ∧ 2 + 10 * (i % 20 - 11) ≤ j ∧ j < 2 + 10 * (i % 20 - 11) + 4)) else k = i
theorem teE_same (cy : Nat → ClassId) (ad : Nat → Nat) (O : Int64) {S S1 : teS} {i : Nat} (h : ∀ k j, teW i k j → S1 k j = S k j) : teE cy ad O S1 i = teE cy ad O S i := by
  by_cases h1 : i < 360
  · have hw : ∀ j, ((i % 20 = 0 ∧ j < 2) ∨ (2 ≤ i % 20 ∧ i % 20 < 11 ∧ 2 + 10 * (i % 20 - 2) + 4 ≤ j ∧ j < 2 + 10 * (i % 20 - 2) + 10) ∨ (11 ≤ i % 20 ∧ 2 + 10 * (i % 20 - 11) ≤ j ∧ j < 2 + 10 * (i % 20 - 11) + 4)) → S1 (i / 20) j = S (i / 20) j := fun j hj => h _ _ (by unfold teW; rw [if_pos h1]; exact ⟨rfl, hj⟩)
    unfold teE
    rw [if_pos h1, if_pos h1]
    by_cases h2 : i % 20 = 0
    · rw [if_pos h2, if_pos h2, hw 0 (by omega), hw 1 (by omega)]
    · rw [if_neg h2, if_neg h2]
      by_cases h3 : i % 20 = 1
      · rw [if_pos h3, if_pos h3]
      · rw [if_neg h3, if_neg h3]
        by_cases h4 : i % 20 < 11
        · rw [if_pos h4, if_pos h4, hw (2 + 10 * (i % 20 - 2) + 4) (by omega), hw (2 + 10 * (i % 20 - 2) + 5) (by omega), hw (2 + 10 * (i % 20 - 2) + 6) (by omega), hw (2 + 10 * (i % 20 - 2) + 7) (by omega), hw (2 + 10 * (i % 20 - 2) + 8) (by omega), hw (2 + 10 * (i % 20 - 2) + 9) (by omega)]
        · rw [if_neg h4, if_neg h4]
          congr 5
          funext j
          by_cases hj : j < 4
          · rw [if_pos hj, if_pos hj, hw _ (by omega)]
          · rw [if_neg hj, if_neg hj]
  · have hw : ∀ j, S1 i j = S i j := fun j => h _ _ (by unfold teW; rw [if_neg h1])
    have hf : S1 i = S i := funext hw
    unfold teE
    rw [if_neg h1, if_neg h1]
    split <;> simp only [hf]
end
section
section TEROW
variable {p : Program} {l : Launch} {e : Env} {R : Room} {s : State} {m : MethodId} {args : Array Value} {below : List Frame} {meth : Method} {c : Code} {H : Heap} {locs : List Loc} {cells slots : Nat} {Q : State → Prop}
variable {Ts : List Cond} {own : String} {cc : ByteArray} {nL : Nat} {ret : Option FieldType} {D : va_G} {cy : Nat → ClassId} {ad : Nat → Nat} {ba : Nat} {O : Int64} {S S1 : teS} {pc : Nat} {ls : Array Slot} {rest : List Value} {id : Nat}
/-- the cell of a thing in the world -/
theorem te_cell (hR : teR D cy ad ba O S H) (hid : id < 380) : ∃ (L : List Nat) (f : Nat → va_E) (q0 : Nat), va_P D vwCl ([] ++ va_pl L f) H ∧ ([] ++ va_pl L f)[q0]? = some (ad id, teE cy ad O S id) := by
  obtain ⟨L, f, hP, -, hc, -⟩ := hR
  obtain ⟨k, hk⟩ := va_pl_get (X := []) (f := f) (hc id hid).1
  exact ⟨L, f, k, hP, by rw [hk, (hc id hid).2]⟩
/-- a cell is written: the world with the new numbers -/
theorem te_upd {H1 : Heap} {L : List Nat} {f : Nat → va_E} {q0 : Nat} {E : va_E} (hD : va_D (teA ba) ([] ++ va_pl L f)) (hc : ∀ i, i < 380 → ad i ∈ L ∧ f (ad i) = teE cy ad O S i) (hi : ∀ i j, i < 380 → j < 380 → ad i = ad j → i = j) (hid : id < 380)
    (hq : ([] ++ va_pl L f)[q0]? = some (ad id, teE cy ad O S id)) (hz : ba ≤ H1.size) {O1 : Int64} (he : teE cy ad O1 S1 id = E) (ho : ∀ i, i < 380 → i ≠ id → teE cy ad O1 S1 i = teE cy ad O S i)
    (hP1 : va_P D vwCl (([] ++ va_pl L f).set q0 (ad id, E)) H1) (hD1 : va_D (teA ba) (([] ++ va_pl L f).set q0 (ad id, E))) : teR D cy ad ba O1 S1 H1 := by
  have hk : ([] ++ va_pl L f)[q0]? = some (ad id, f (ad id)) := by rw [hq, (hc id hid).2]
  rw [va_pl_set hD (hc id hid).1 hk] at hP1 hD1
  refine ⟨L, va_up f (ad id) E, hP1, hD1, fun i h => ⟨(hc i h).1, ?_⟩, hi, hz⟩
  by_cases h1 : i = id
  · subst h1
    rw [he]
    simp [va_up]
  · have h2 : ad i ≠ ad id := fun z => h1 (hi i id h hid z)
    unfold va_up
    rw [if_neg h2, ho i h h1]
    exact (hc i h).2
theorem te_get (X : teC Ts own cc nL ret D cy ba p s m args meth c) (hR : teR D cy ad ba O S H) (hid : id < 380) {ref C : String} {T : u_T} {N ci index : Nat} {fs : List Value} (hE : teE cy ad O S id = .inr (ci, fs)) (hin : ∀ w ∈ u_ws C T N, w ∈ Ts) (hc : vwCl[ci]? = some (C, T, N)) (k : Nat) (hk : k < N) (hlink : Cond.fieldLink own index ref (T k).2.1 (T k).2.2.1 ∈ Ts) (hsame : (T k).1 = ref) {v : Value} (hv : fs[k]? = some v) (hdg : decode cc pc = .ok (.getfield index, 3))
    (kk : W p l e R s m args below meth c H locs cells slots Q (F0 m (pc + 3) ls (v :: rest))) : W p l e R s m args below meth c H locs cells slots Q (F0 m pc ls (.ref (ad id) :: rest)) := by
  obtain ⟨hx, hb, -, -, hown, hts, -, hK, -⟩ := X
  obtain ⟨L, f, q0, hP, hq⟩ := te_cell hR hid
  rw [hE] at hq
  exact va_get (D := D) hx hb hts hin hown hK hP q0 hq hc k hk (hts _ hlink) (by rw [hsame]; exact fun _ h => h) hv hdg kk
theorem te_put (X : teC Ts own cc nL ret D cy ba p s m args meth c) (hR : teR D cy ad ba O S H) (hS : va_S (teA ba) s.heap H locs) (hid : id < 380) {ref C : String} {T : u_T} {N ci index : Nat} {fs : List Value} (hE : teE cy ad O S id = .inr (ci, fs)) (hin : ∀ w ∈ u_ws C T N, w ∈ Ts) (hc : vwCl[ci]? = some (C, T, N)) (k : Nat) (hk : k < N) (hlink : Cond.fieldLink own index ref (T k).2.1 (T k).2.2.1 ∈ Ts) (hsame : (T k).1 = ref) {v : Int32}
    (ty0 : Nat → FieldType) (hty : ∀ k, k < N → parseFieldDescriptor (T k).2.2.1 = some (ty0 k)) (hnm : ∀ a, a < N → ∀ b, b < N → a ≠ b → (T a).2.1 ≠ (T b).2.1) (hfin : (T k).2.2.2 = false) (hd : parseFieldDescriptor (T k).2.2.1 = some .int) (hl : k < fs.length)
    (he : teE cy ad O S1 id = .inr (ci, fs.set k (.int v))) (ho : ∀ i, i < 380 → i ≠ id → teE cy ad O S1 i = teE cy ad O S i)
    (hdg : decode cc pc = .ok (.putfield index, 3)) (kk : ∀ (H1 : Heap) (locs1 : List Loc), teR D cy ad ba O S1 H1 → va_S (teA ba) s.heap H1 locs1 → W p l e R s m args below meth c H1 locs1 cells slots Q (F0 m (pc + 3) ls rest)) : W p l e R s m args below meth c H locs cells slots Q (F0 m pc ls (.int v :: .ref (ad id) :: rest)) := by
  obtain ⟨hx, hb, -, -, hown, hts, -, hK, hF⟩ := X
  obtain ⟨L, f, hP, hD, hcs, hi, hz⟩ := hR
  obtain ⟨q0, hq⟩ := va_pl_get (X := []) (f := f) (hcs id hid).1
  rw [(hcs id hid).2] at hq
  have hq2 := hq
  rw [hE] at hq2
  refine va_put (D := D) hx hb hts hin ty0 hty hnm hown hK hP hD hS q0 hq2 hc k hk (hts _ hlink) (by rw [hsame]; exact fun _ h => h) hfin hd rfl rfl hl hdg (fun H1 locs1 hP1 hD1 hS1 => ?_)
  exact kk H1 locs1 (te_upd hD hcs hi hid hq (Nat.le_trans hF.2.2.2.2 hS1.1) he ho hP1 hD1) hS1
/-- reading and writing rows of ints -/
theorem te_iald (X : teC Ts own cc nL ret D cy ba p s m args meth c) (hR : teR D cy ad ba O S H) (hid : id < 380) {n : Nat} {f : Nat → Int32} (hE : teE cy ad O S id = .inl (cy 0, n, .inl f)) {i : Int32} (hin : tein i n = true) (hdg : decode cc pc = .ok (.iaload, 1))
    (kk : W p l e R s m args below meth c H locs cells slots Q (F0 m (pc + 1) ls (.int (f i.toNatClampNeg) :: rest))) : W p l e R s m args below meth c H locs cells slots Q (F0 m pc ls (.int i :: .ref (ad id) :: rest)) := by
  obtain ⟨hx, hb, -, -, hown, hts, -, hK, -⟩ := X
  obtain ⟨L, g, q0, hP, hq⟩ := te_cell hR hid
  rw [hE] at hq
  exact va_iald hx hb hK hP q0 0 hq rfl (tein_in hin) hdg kk
theorem te_cald (X : teC Ts own cc nL ret D cy ba p s m args meth c) (hR : teR D cy ad ba O S H) (hid : id < 380) {n : Nat} {f : Nat → Int32} (hE : teE cy ad O S id = .inl (cy 1, n, .inl f)) {i : Int32} (hin : tein i n = true) (hdg : decode cc pc = .ok (.caload, 1))
    (kk : W p l e R s m args below meth c H locs cells slots Q (F0 m (pc + 1) ls (.int (f i.toNatClampNeg) :: rest))) : W p l e R s m args below meth c H locs cells slots Q (F0 m pc ls (.int i :: .ref (ad id) :: rest)) := by
  obtain ⟨hx, hb, -, -, hown, hts, -, hK, -⟩ := X
  obtain ⟨L, g, q0, hP, hq⟩ := te_cell hR hid
  rw [hE] at hq
  exact va_cald hx hb hK hP q0 1 hq rfl (tein_in hin) hdg kk
theorem te_zald (X : teC Ts own cc nL ret D cy ba p s m args meth c) (hR : teR D cy ad ba O S H) (hid : id < 380) {n : Nat} {f : Nat → Int32} (hE : teE cy ad O S id = .inl (cy 2, n, .inl f)) {i : Int32} (hin : tein i n = true) (hdg : decode cc pc = .ok (.baload, 1))
    (kk : W p l e R s m args below meth c H locs cells slots Q (F0 m (pc + 1) ls (.int (f i.toNatClampNeg) :: rest))) : W p l e R s m args below meth c H locs cells slots Q (F0 m pc ls (.int i :: .ref (ad id) :: rest)) := by
  obtain ⟨hx, hb, -, -, hown, hts, -, hK, -⟩ := X
  obtain ⟨L, g, q0, hP, hq⟩ := te_cell hR hid
  rw [hE] at hq
  exact va_zald hx hb hK hP q0 2 hq rfl (tein_in hin) hdg kk
theorem te_aald (X : teC Ts own cc nL ret D cy ba p s m args meth c) (hR : teR D cy ad ba O S H) (hid : id < 380) {n t0 : Nat} {C : String} {f : Nat → Option Nat} (ht : (teT cy)[t0]? = some (cy t0, .object C)) (hE : teE cy ad O S id = .inl (cy t0, n, .inr (.inr (.inr (.inr f))))) {i : Int32} (hin : tein i n = true) (hdg : decode cc pc = .ok (.aaload, 1))
    (kk : W p l e R s m args below meth c H locs cells slots Q (F0 m (pc + 1) ls (va_rf (f i.toNatClampNeg) :: rest))) : W p l e R s m args below meth c H locs cells slots Q (F0 m pc ls (.int i :: .ref (ad id) :: rest)) := by
  obtain ⟨hx, hb, -, -, hown, hts, -, hK, -⟩ := X
  obtain ⟨L, g, q0, hP, hq⟩ := te_cell hR hid
  rw [hE] at hq
  exact va_aldq hx hb hK hP q0 t0 hq ht (tein_in hin) hdg kk
theorem te_iast (X : teC Ts own cc nL ret D cy ba p s m args meth c) (hR : teR D cy ad ba O S H) (hS : va_S (teA ba) s.heap H locs) (hid : id < 380) {n : Nat} {f : Nat → Int32} (hE : teE cy ad O S id = .inl (cy 0, n, .inl f)) {i v : Int32} (hin : tein i n = true)
    (he : teE cy ad O S1 id = .inl (cy 0, n, .inl (upd f i.toNatClampNeg v))) (ho : ∀ i, i < 380 → i ≠ id → teE cy ad O S1 i = teE cy ad O S i) (hdg : decode cc pc = .ok (.iastore, 1))
    (kk : ∀ (H1 : Heap) (locs1 : List Loc), teR D cy ad ba O S1 H1 → va_S (teA ba) s.heap H1 locs1 → W p l e R s m args below meth c H1 locs1 cells slots Q (F0 m (pc + 1) ls rest)) : W p l e R s m args below meth c H locs cells slots Q (F0 m pc ls (.int v :: .int i :: .ref (ad id) :: rest)) := by
  obtain ⟨hx, hb, -, -, hown, hts, -, hK, hF⟩ := X
  obtain ⟨L, g, hP, hD, hcs, hi, hz⟩ := hR
  obtain ⟨q0, hq⟩ := va_pl_get (X := []) (f := g) (hcs id hid).1
  rw [(hcs id hid).2] at hq
  have hq2 := hq
  rw [hE] at hq2
  refine va_iast hx hb hK hP hD hS q0 0 hq2 rfl (tein_in hin) hdg (fun H1 locs1 hP1 hD1 hS1 => ?_)
  exact kk H1 locs1 (te_upd hD hcs hi hid hq (Nat.le_trans hF.2.2.2.2 hS1.1) he ho hP1 hD1) hS1
theorem te_cast (X : teC Ts own cc nL ret D cy ba p s m args meth c) (hR : teR D cy ad ba O S H) (hS : va_S (teA ba) s.heap H locs) (hid : id < 380) {n : Nat} {f : Nat → Int32} (hE : teE cy ad O S id = .inl (cy 1, n, .inl f)) {i v : Int32} (hin : tein i n = true)
    (he : teE cy ad O S1 id = .inl (cy 1, n, .inl (upd f i.toNatClampNeg (vp_nar .char v)))) (ho : ∀ i, i < 380 → i ≠ id → teE cy ad O S1 i = teE cy ad O S i) (hdg : decode cc pc = .ok (.castore, 1))
    (kk : ∀ (H1 : Heap) (locs1 : List Loc), teR D cy ad ba O S1 H1 → va_S (teA ba) s.heap H1 locs1 → W p l e R s m args below meth c H1 locs1 cells slots Q (F0 m (pc + 1) ls rest)) : W p l e R s m args below meth c H locs cells slots Q (F0 m pc ls (.int v :: .int i :: .ref (ad id) :: rest)) := by
  obtain ⟨hx, hb, -, -, hown, hts, -, hK, hF⟩ := X
  obtain ⟨L, g, hP, hD, hcs, hi, hz⟩ := hR
  obtain ⟨q0, hq⟩ := va_pl_get (X := []) (f := g) (hcs id hid).1
  rw [(hcs id hid).2] at hq
  have hq2 := hq
  rw [hE] at hq2
  refine va_cast hx hb hK hP hD hS q0 1 hq2 rfl (tein_in hin) hdg (fun H1 locs1 hP1 hD1 hS1 => ?_)
  exact kk H1 locs1 (te_upd hD hcs hi hid hq (Nat.le_trans hF.2.2.2.2 hS1.1) he ho hP1 hD1) hS1
theorem te_zast (X : teC Ts own cc nL ret D cy ba p s m args meth c) (hR : teR D cy ad ba O S H) (hS : va_S (teA ba) s.heap H locs) (hid : id < 380) {n : Nat} {f : Nat → Int32} (hE : teE cy ad O S id = .inl (cy 2, n, .inl f)) {i v : Int32} (hin : tein i n = true)
    (he : teE cy ad O S1 id = .inl (cy 2, n, .inl (upd f i.toNatClampNeg (vp_nar .boolean v)))) (ho : ∀ i, i < 380 → i ≠ id → teE cy ad O S1 i = teE cy ad O S i) (hdg : decode cc pc = .ok (.bastore, 1))
    (kk : ∀ (H1 : Heap) (locs1 : List Loc), teR D cy ad ba O S1 H1 → va_S (teA ba) s.heap H1 locs1 → W p l e R s m args below meth c H1 locs1 cells slots Q (F0 m (pc + 1) ls rest)) : W p l e R s m args below meth c H locs cells slots Q (F0 m pc ls (.int v :: .int i :: .ref (ad id) :: rest)) := by
  obtain ⟨hx, hb, -, -, hown, hts, -, hK, hF⟩ := X
  obtain ⟨L, g, hP, hD, hcs, hi, hz⟩ := hR
  obtain ⟨q0, hq⟩ := va_pl_get (X := []) (f := g) (hcs id hid).1
  rw [(hcs id hid).2] at hq
  have hq2 := hq
  rw [hE] at hq2
  refine va_zast hx hb hK hP hD hS q0 2 hq2 rfl (tein_in hin) hdg (fun H1 locs1 hP1 hD1 hS1 => ?_)
  exact kk H1 locs1 (te_upd hD hcs hi hid hq (Nat.le_trans hF.2.2.2.2 hS1.1) he ho hP1 hD1) hS1
/-- one number changed: the other cells are the same -/
theorem teu_o {k j : Nat} {v : Int32} (h : ∀ i, i < 380 → i ≠ id → ¬ teW i k j) : ∀ i, i < 380 → i ≠ id → teE cy ad O (teu S k j v) i = teE cy ad O S i := by
  intro i h1 h2
  refine teE_same cy ad O (fun k1 j1 hw => teu_n S v (fun hk hj => h i h1 h2 ?_))
  subst hk; subst hj
  exact hw
end TEROW
end
section
section TEFLD
variable {p : Program} {l : Launch} {e : Env} {R : Room} {s : State} {m : MethodId} {args : Array Value} {below : List Frame} {meth : Method} {c : Code} {H : Heap} {locs : List Loc} {cells slots : Nat} {Q : State → Prop}
variable {Ts : List Cond} {own : String} {cc : ByteArray} {nL : Nat} {ret : Option FieldType} {D : va_G} {cy : Nat → ClassId} {ad : Nat → Nat} {ba : Nat} {O : Int64} {S : teS} {pc : Nat} {ls : Array Slot} {rest : List Value}
theorem rg_0_0 (X : teC Ts own cc nL ret D cy ba p s m args meth c) (hR : teR D cy ad ba O S H) (hin : ∀ w ∈ wsX00, w ∈ Ts) {index : Nat} (hlink : Cond.fieldLink own index "TandemExchange$BestMatching" "ranks" "[I" ∈ Ts) (hdg : decode cc pc = .ok (.getfield index, 3)) (kk : W p l e R s m args below meth c H locs cells slots Q (F0 m (pc + 3) ls ((.ref (ad 368)) :: rest))) : W p l e R s m args below meth c H locs cells slots Q (F0 m pc ls (.ref (ad 367) :: rest)) := te_get (C := RX0) (T := TX0) (N := 1) X hR (id := 367) (by decide) (rfl) hin rfl 0 (by decide) hlink rfl rfl hdg kk
theorem rg_1_0 (X : teC Ts own cc nL ret D cy ba p s m args meth c) (hR : teR D cy ad ba O S H) {k : Nat} (hk : k < 18) (hin : ∀ w ∈ wsX10, w ∈ Ts) {index : Nat} (hlink : Cond.fieldLink own index "TandemExchange$Circle" "members" "[LTandemExchange$Member;" ∈ Ts) (hdg : decode cc pc = .ok (.getfield index, 3)) (kk : W p l e R s m args below meth c H locs cells slots Q (F0 m (pc + 3) ls ((.ref (ad (20 * k + 1))) :: rest))) : W p l e R s m args below meth c H locs cells slots Q (F0 m pc ls (.ref (ad (20 * k)) :: rest)) := te_get (C := RX1) (T := TX1) (N := 3) X hR (id := (20 * k)) (by omega) (teE_circ cy ad O S hk) hin rfl 0 (by decide) hlink rfl rfl hdg kk
theorem rg_1_1 (X : teC Ts own cc nL ret D cy ba p s m args meth c) (hR : teR D cy ad ba O S H) {k : Nat} (hk : k < 18) (hin : ∀ w ∈ wsX10, w ∈ Ts) {index : Nat} (hlink : Cond.fieldLink own index "TandemExchange$Circle" "size" "I" ∈ Ts) (hdg : decode cc pc = .ok (.getfield index, 3)) (kk : W p l e R s m args below meth c H locs cells slots Q (F0 m (pc + 3) ls ((.int (S k 0)) :: rest))) : W p l e R s m args below meth c H locs cells slots Q (F0 m pc ls (.ref (ad (20 * k)) :: rest)) := te_get (C := RX1) (T := TX1) (N := 3) X hR (id := (20 * k)) (by omega) (teE_circ cy ad O S hk) hin rfl 1 (by decide) hlink rfl rfl hdg kk
theorem rp_1_1 (X : teC Ts own cc nL ret D cy ba p s m args meth c) (hR : teR D cy ad ba O S H) (hS : va_S (teA ba) s.heap H locs) {k : Nat} (hk : k < 18) (hin : ∀ w ∈ wsX10, w ∈ Ts) {index : Nat} (hlink : Cond.fieldLink own index "TandemExchange$Circle" "size" "I" ∈ Ts) {v : Int32} (hdg : decode cc pc = .ok (.putfield index, 3)) (kk : ∀ (H1 : Heap) (locs1 : List Loc), teR D cy ad ba O (teu S k 0 v) H1 → va_S (teA ba) s.heap H1 locs1 → W p l e R s m args below meth c H1 locs1 cells slots Q (F0 m (pc + 3) ls rest)) : W p l e R s m args below meth c H locs cells slots Q (F0 m pc ls (.int v :: .ref (ad (20 * k)) :: rest)) := te_put (C := RX1) (T := TX1) (N := 3) X hR hS (id := (20 * k)) (by omega) (teE_circ cy ad O S hk) hin rfl 1 (by decide) hlink rfl tyX1 tyX1_ok nmX1 rfl (by decide +kernel) (Nat.le_of_ble_eq_true rfl) ((teE_circ cy ad O (teu S k 0 v) hk).trans (by simp [teu])) (teu_o (fun i h1 h2 hw => by unfold teW at hw; split at hw <;> omega)) hdg kk
theorem rg_1_2 (X : teC Ts own cc nL ret D cy ba p s m args meth c) (hR : teR D cy ad ba O S H) {k : Nat} (hk : k < 18) (hin : ∀ w ∈ wsX10, w ∈ Ts) {index : Nat} (hlink : Cond.fieldLink own index "TandemExchange$Circle" "weeks" "I" ∈ Ts) (hdg : decode cc pc = .ok (.getfield index, 3)) (kk : W p l e R s m args below meth c H locs cells slots Q (F0 m (pc + 3) ls ((.int (S k 1)) :: rest))) : W p l e R s m args below meth c H locs cells slots Q (F0 m pc ls (.ref (ad (20 * k)) :: rest)) := te_get (C := RX1) (T := TX1) (N := 3) X hR (id := (20 * k)) (by omega) (teE_circ cy ad O S hk) hin rfl 2 (by decide) hlink rfl rfl hdg kk
theorem rp_1_2 (X : teC Ts own cc nL ret D cy ba p s m args meth c) (hR : teR D cy ad ba O S H) (hS : va_S (teA ba) s.heap H locs) {k : Nat} (hk : k < 18) (hin : ∀ w ∈ wsX10, w ∈ Ts) {index : Nat} (hlink : Cond.fieldLink own index "TandemExchange$Circle" "weeks" "I" ∈ Ts) {v : Int32} (hdg : decode cc pc = .ok (.putfield index, 3)) (kk : ∀ (H1 : Heap) (locs1 : List Loc), teR D cy ad ba O (teu S k 1 v) H1 → va_S (teA ba) s.heap H1 locs1 → W p l e R s m args below meth c H1 locs1 cells slots Q (F0 m (pc + 3) ls rest)) : W p l e R s m args below meth c H locs cells slots Q (F0 m pc ls (.int v :: .ref (ad (20 * k)) :: rest)) := te_put (C := RX1) (T := TX1) (N := 3) X hR hS (id := (20 * k)) (by omega) (teE_circ cy ad O S hk) hin rfl 2 (by decide) hlink rfl tyX1 tyX1_ok nmX1 rfl (by decide +kernel) (Nat.le_of_ble_eq_true rfl) ((teE_circ cy ad O (teu S k 1 v) hk).trans (by simp [teu])) (teu_o (fun i h1 h2 hw => by unfold teW at hw; split at hw <;> omega)) hdg kk
theorem rg_2_0 (X : teC Ts own cc nL ret D cy ba p s m args meth c) (hR : teR D cy ad ba O S H) (hin : ∀ w ∈ wsX20, w ∈ Ts) {index : Nat} (hlink : Cond.fieldLink own index "TandemExchange$History" "states" "[LTandemExchange$Circle;" ∈ Ts) (hdg : decode cc pc = .ok (.getfield index, 3)) (kk : W p l e R s m args below meth c H locs cells slots Q (F0 m (pc + 3) ls ((.ref (ad 364)) :: rest))) : W p l e R s m args below meth c H locs cells slots Q (F0 m pc ls (.ref (ad 363) :: rest)) := te_get (C := RX2) (T := TX2) (N := 3) X hR (id := 363) (by decide) (rfl) hin rfl 0 (by decide) hlink rfl rfl hdg kk
theorem rg_2_1 (X : teC Ts own cc nL ret D cy ba p s m args meth c) (hR : teR D cy ad ba O S H) (hin : ∀ w ∈ wsX20, w ∈ Ts) {index : Nat} (hlink : Cond.fieldLink own index "TandemExchange$History" "oldest" "I" ∈ Ts) (hdg : decode cc pc = .ok (.getfield index, 3)) (kk : W p l e R s m args below meth c H locs cells slots Q (F0 m (pc + 3) ls ((.int (S 363 0)) :: rest))) : W p l e R s m args below meth c H locs cells slots Q (F0 m pc ls (.ref (ad 363) :: rest)) := te_get (C := RX2) (T := TX2) (N := 3) X hR (id := 363) (by decide) (rfl) hin rfl 1 (by decide) hlink rfl rfl hdg kk
theorem rp_2_1 (X : teC Ts own cc nL ret D cy ba p s m args meth c) (hR : teR D cy ad ba O S H) (hS : va_S (teA ba) s.heap H locs) (hin : ∀ w ∈ wsX20, w ∈ Ts) {index : Nat} (hlink : Cond.fieldLink own index "TandemExchange$History" "oldest" "I" ∈ Ts) {v : Int32} (hdg : decode cc pc = .ok (.putfield index, 3)) (kk : ∀ (H1 : Heap) (locs1 : List Loc), teR D cy ad ba O (teu S 363 0 v) H1 → va_S (teA ba) s.heap H1 locs1 → W p l e R s m args below meth c H1 locs1 cells slots Q (F0 m (pc + 3) ls rest)) : W p l e R s m args below meth c H locs cells slots Q (F0 m pc ls (.int v :: .ref (ad 363) :: rest)) := te_put (C := RX2) (T := TX2) (N := 3) X hR hS (id := 363) (by decide) (rfl) hin rfl 1 (by decide) hlink rfl tyX2 tyX2_ok nmX2 rfl (by decide +kernel) (Nat.le_of_ble_eq_true rfl) ((by simp [teE, teu])) (teu_o (fun i h1 h2 hw => by unfold teW at hw; split at hw <;> omega)) hdg kk
theorem rg_2_2 (X : teC Ts own cc nL ret D cy ba p s m args meth c) (hR : teR D cy ad ba O S H) (hin : ∀ w ∈ wsX20, w ∈ Ts) {index : Nat} (hlink : Cond.fieldLink own index "TandemExchange$History" "count" "I" ∈ Ts) (hdg : decode cc pc = .ok (.getfield index, 3)) (kk : W p l e R s m args below meth c H locs cells slots Q (F0 m (pc + 3) ls ((.int (S 363 1)) :: rest))) : W p l e R s m args below meth c H locs cells slots Q (F0 m pc ls (.ref (ad 363) :: rest)) := te_get (C := RX2) (T := TX2) (N := 3) X hR (id := 363) (by decide) (rfl) hin rfl 2 (by decide) hlink rfl rfl hdg kk
theorem rp_2_2 (X : teC Ts own cc nL ret D cy ba p s m args meth c) (hR : teR D cy ad ba O S H) (hS : va_S (teA ba) s.heap H locs) (hin : ∀ w ∈ wsX20, w ∈ Ts) {index : Nat} (hlink : Cond.fieldLink own index "TandemExchange$History" "count" "I" ∈ Ts) {v : Int32} (hdg : decode cc pc = .ok (.putfield index, 3)) (kk : ∀ (H1 : Heap) (locs1 : List Loc), teR D cy ad ba O (teu S 363 1 v) H1 → va_S (teA ba) s.heap H1 locs1 → W p l e R s m args below meth c H1 locs1 cells slots Q (F0 m (pc + 3) ls rest)) : W p l e R s m args below meth c H locs cells slots Q (F0 m pc ls (.int v :: .ref (ad 363) :: rest)) := te_put (C := RX2) (T := TX2) (N := 3) X hR hS (id := 363) (by decide) (rfl) hin rfl 2 (by decide) hlink rfl tyX2 tyX2_ok nmX2 rfl (by decide +kernel) (Nat.le_of_ble_eq_true rfl) ((by simp [teE, teu])) (teu_o (fun i h1 h2 hw => by unfold teW at hw; split at hw <;> omega)) hdg kk
theorem rg_3_0 (X : teC Ts own cc nL ret D cy ba p s m args meth c) (hR : teR D cy ad ba O S H) {k a : Nat} (hk : k < 18) (ha : a < 9) (hin : ∀ w ∈ wsX30, w ∈ Ts) {index : Nat} (hlink : Cond.fieldLink own index "TandemExchange$Member" "levels" "[I" ∈ Ts) (hdg : decode cc pc = .ok (.getfield index, 3)) (kk : W p l e R s m args below meth c H locs cells slots Q (F0 m (pc + 3) ls ((.ref (ad (20 * k + 11 + a))) :: rest))) : W p l e R s m args below meth c H locs cells slots Q (F0 m pc ls (.ref (ad (20 * k + 2 + a)) :: rest)) := te_get (C := RX3) (T := TX3) (N := 7) X hR (id := (20 * k + 2 + a)) (by omega) (teE_memb cy ad O S hk ha) hin rfl 0 (by decide) hlink rfl rfl hdg kk
theorem rg_3_1 (X : teC Ts own cc nL ret D cy ba p s m args meth c) (hR : teR D cy ad ba O S H) {k a : Nat} (hk : k < 18) (ha : a < 9) (hin : ∀ w ∈ wsX30, w ∈ Ts) {index : Nat} (hlink : Cond.fieldLink own index "TandemExchange$Member" "wants" "I" ∈ Ts) (hdg : decode cc pc = .ok (.getfield index, 3)) (kk : W p l e R s m args below meth c H locs cells slots Q (F0 m (pc + 3) ls ((.int (S k (2 + 10 * a + 4))) :: rest))) : W p l e R s m args below meth c H locs cells slots Q (F0 m pc ls (.ref (ad (20 * k + 2 + a)) :: rest)) := te_get (C := RX3) (T := TX3) (N := 7) X hR (id := (20 * k + 2 + a)) (by omega) (teE_memb cy ad O S hk ha) hin rfl 1 (by decide) hlink rfl rfl hdg kk
theorem rp_3_1 (X : teC Ts own cc nL ret D cy ba p s m args meth c) (hR : teR D cy ad ba O S H) (hS : va_S (teA ba) s.heap H locs) {k a : Nat} (hk : k < 18) (ha : a < 9) (hin : ∀ w ∈ wsX30, w ∈ Ts) {index : Nat} (hlink : Cond.fieldLink own index "TandemExchange$Member" "wants" "I" ∈ Ts) {v : Int32} (hdg : decode cc pc = .ok (.putfield index, 3)) (kk : ∀ (H1 : Heap) (locs1 : List Loc), teR D cy ad ba O (teu S k (2 + 10 * a + 4) v) H1 → va_S (teA ba) s.heap H1 locs1 → W p l e R s m args below meth c H1 locs1 cells slots Q (F0 m (pc + 3) ls rest)) : W p l e R s m args below meth c H locs cells slots Q (F0 m pc ls (.int v :: .ref (ad (20 * k + 2 + a)) :: rest)) := te_put (C := RX3) (T := TX3) (N := 7) X hR hS (id := (20 * k + 2 + a)) (by omega) (teE_memb cy ad O S hk ha) hin rfl 1 (by decide) hlink rfl tyX3 tyX3_ok nmX3 rfl (by decide +kernel) (Nat.le_of_ble_eq_true rfl) ((teE_memb cy ad O (teu S k (2 + 10 * a + 4) v) hk ha).trans (by simp [teu])) (teu_o (fun i h1 h2 hw => by unfold teW at hw; split at hw <;> omega)) hdg kk
theorem rg_3_2 (X : teC Ts own cc nL ret D cy ba p s m args meth c) (hR : teR D cy ad ba O S H) {k a : Nat} (hk : k < 18) (ha : a < 9) (hin : ∀ w ∈ wsX30, w ∈ Ts) {index : Nat} (hlink : Cond.fieldLink own index "TandemExchange$Member" "progress" "I" ∈ Ts) (hdg : decode cc pc = .ok (.getfield index, 3)) (kk : W p l e R s m args below meth c H locs cells slots Q (F0 m (pc + 3) ls ((.int (S k (2 + 10 * a + 5))) :: rest))) : W p l e R s m args below meth c H locs cells slots Q (F0 m pc ls (.ref (ad (20 * k + 2 + a)) :: rest)) := te_get (C := RX3) (T := TX3) (N := 7) X hR (id := (20 * k + 2 + a)) (by omega) (teE_memb cy ad O S hk ha) hin rfl 2 (by decide) hlink rfl rfl hdg kk
theorem rp_3_2 (X : teC Ts own cc nL ret D cy ba p s m args meth c) (hR : teR D cy ad ba O S H) (hS : va_S (teA ba) s.heap H locs) {k a : Nat} (hk : k < 18) (ha : a < 9) (hin : ∀ w ∈ wsX30, w ∈ Ts) {index : Nat} (hlink : Cond.fieldLink own index "TandemExchange$Member" "progress" "I" ∈ Ts) {v : Int32} (hdg : decode cc pc = .ok (.putfield index, 3)) (kk : ∀ (H1 : Heap) (locs1 : List Loc), teR D cy ad ba O (teu S k (2 + 10 * a + 5) v) H1 → va_S (teA ba) s.heap H1 locs1 → W p l e R s m args below meth c H1 locs1 cells slots Q (F0 m (pc + 3) ls rest)) : W p l e R s m args below meth c H locs cells slots Q (F0 m pc ls (.int v :: .ref (ad (20 * k + 2 + a)) :: rest)) := te_put (C := RX3) (T := TX3) (N := 7) X hR hS (id := (20 * k + 2 + a)) (by omega) (teE_memb cy ad O S hk ha) hin rfl 2 (by decide) hlink rfl tyX3 tyX3_ok nmX3 rfl (by decide +kernel) (Nat.le_of_ble_eq_true rfl) ((teE_memb cy ad O (teu S k (2 + 10 * a + 5) v) hk ha).trans (by simp [teu])) (teu_o (fun i h1 h2 hw => by unfold teW at hw; split at hw <;> omega)) hdg kk
theorem rg_3_3 (X : teC Ts own cc nL ret D cy ba p s m args meth c) (hR : teR D cy ad ba O S H) {k a : Nat} (hk : k < 18) (ha : a < 9) (hin : ∀ w ∈ wsX30, w ∈ Ts) {index : Nat} (hlink : Cond.fieldLink own index "TandemExchange$Member" "credits" "I" ∈ Ts) (hdg : decode cc pc = .ok (.getfield index, 3)) (kk : W p l e R s m args below meth c H locs cells slots Q (F0 m (pc + 3) ls ((.int (S k (2 + 10 * a + 6))) :: rest))) : W p l e R s m args below meth c H locs cells slots Q (F0 m pc ls (.ref (ad (20 * k + 2 + a)) :: rest)) := te_get (C := RX3) (T := TX3) (N := 7) X hR (id := (20 * k + 2 + a)) (by omega) (teE_memb cy ad O S hk ha) hin rfl 3 (by decide) hlink rfl rfl hdg kk
theorem rp_3_3 (X : teC Ts own cc nL ret D cy ba p s m args meth c) (hR : teR D cy ad ba O S H) (hS : va_S (teA ba) s.heap H locs) {k a : Nat} (hk : k < 18) (ha : a < 9) (hin : ∀ w ∈ wsX30, w ∈ Ts) {index : Nat} (hlink : Cond.fieldLink own index "TandemExchange$Member" "credits" "I" ∈ Ts) {v : Int32} (hdg : decode cc pc = .ok (.putfield index, 3)) (kk : ∀ (H1 : Heap) (locs1 : List Loc), teR D cy ad ba O (teu S k (2 + 10 * a + 6) v) H1 → va_S (teA ba) s.heap H1 locs1 → W p l e R s m args below meth c H1 locs1 cells slots Q (F0 m (pc + 3) ls rest)) : W p l e R s m args below meth c H locs cells slots Q (F0 m pc ls (.int v :: .ref (ad (20 * k + 2 + a)) :: rest)) := te_put (C := RX3) (T := TX3) (N := 7) X hR hS (id := (20 * k + 2 + a)) (by omega) (teE_memb cy ad O S hk ha) hin rfl 3 (by decide) hlink rfl tyX3 tyX3_ok nmX3 rfl (by decide +kernel) (Nat.le_of_ble_eq_true rfl) ((teE_memb cy ad O (teu S k (2 + 10 * a + 6) v) hk ha).trans (by simp [teu])) (teu_o (fun i h1 h2 hw => by unfold teW at hw; split at hw <;> omega)) hdg kk
theorem rg_3_4 (X : teC Ts own cc nL ret D cy ba p s m args meth c) (hR : teR D cy ad ba O S H) {k a : Nat} (hk : k < 18) (ha : a < 9) (hin : ∀ w ∈ wsX30, w ∈ Ts) {index : Nat} (hlink : Cond.fieldLink own index "TandemExchange$Member" "missed" "I" ∈ Ts) (hdg : decode cc pc = .ok (.getfield index, 3)) (kk : W p l e R s m args below meth c H locs cells slots Q (F0 m (pc + 3) ls ((.int (S k (2 + 10 * a + 7))) :: rest))) : W p l e R s m args below meth c H locs cells slots Q (F0 m pc ls (.ref (ad (20 * k + 2 + a)) :: rest)) := te_get (C := RX3) (T := TX3) (N := 7) X hR (id := (20 * k + 2 + a)) (by omega) (teE_memb cy ad O S hk ha) hin rfl 4 (by decide) hlink rfl rfl hdg kk
theorem rp_3_4 (X : teC Ts own cc nL ret D cy ba p s m args meth c) (hR : teR D cy ad ba O S H) (hS : va_S (teA ba) s.heap H locs) {k a : Nat} (hk : k < 18) (ha : a < 9) (hin : ∀ w ∈ wsX30, w ∈ Ts) {index : Nat} (hlink : Cond.fieldLink own index "TandemExchange$Member" "missed" "I" ∈ Ts) {v : Int32} (hdg : decode cc pc = .ok (.putfield index, 3)) (kk : ∀ (H1 : Heap) (locs1 : List Loc), teR D cy ad ba O (teu S k (2 + 10 * a + 7) v) H1 → va_S (teA ba) s.heap H1 locs1 → W p l e R s m args below meth c H1 locs1 cells slots Q (F0 m (pc + 3) ls rest)) : W p l e R s m args below meth c H locs cells slots Q (F0 m pc ls (.int v :: .ref (ad (20 * k + 2 + a)) :: rest)) := te_put (C := RX3) (T := TX3) (N := 7) X hR hS (id := (20 * k + 2 + a)) (by omega) (teE_memb cy ad O S hk ha) hin rfl 4 (by decide) hlink rfl tyX3 tyX3_ok nmX3 rfl (by decide +kernel) (Nat.le_of_ble_eq_true rfl) ((teE_memb cy ad O (teu S k (2 + 10 * a + 7) v) hk ha).trans (by simp [teu])) (teu_o (fun i h1 h2 hw => by unfold teW at hw; split at hw <;> omega)) hdg kk
theorem rg_3_5 (X : teC Ts own cc nL ret D cy ba p s m args meth c) (hR : teR D cy ad ba O S H) {k a : Nat} (hk : k < 18) (ha : a < 9) (hin : ∀ w ∈ wsX30, w ∈ Ts) {index : Nat} (hlink : Cond.fieldLink own index "TandemExchange$Member" "partner" "I" ∈ Ts) (hdg : decode cc pc = .ok (.getfield index, 3)) (kk : W p l e R s m args below meth c H locs cells slots Q (F0 m (pc + 3) ls ((.int (S k (2 + 10 * a + 8))) :: rest))) : W p l e R s m args below meth c H locs cells slots Q (F0 m pc ls (.ref (ad (20 * k + 2 + a)) :: rest)) := te_get (C := RX3) (T := TX3) (N := 7) X hR (id := (20 * k + 2 + a)) (by omega) (teE_memb cy ad O S hk ha) hin rfl 5 (by decide) hlink rfl rfl hdg kk
theorem rp_3_5 (X : teC Ts own cc nL ret D cy ba p s m args meth c) (hR : teR D cy ad ba O S H) (hS : va_S (teA ba) s.heap H locs) {k a : Nat} (hk : k < 18) (ha : a < 9) (hin : ∀ w ∈ wsX30, w ∈ Ts) {index : Nat} (hlink : Cond.fieldLink own index "TandemExchange$Member" "partner" "I" ∈ Ts) {v : Int32} (hdg : decode cc pc = .ok (.putfield index, 3)) (kk : ∀ (H1 : Heap) (locs1 : List Loc), teR D cy ad ba O (teu S k (2 + 10 * a + 8) v) H1 → va_S (teA ba) s.heap H1 locs1 → W p l e R s m args below meth c H1 locs1 cells slots Q (F0 m (pc + 3) ls rest)) : W p l e R s m args below meth c H locs cells slots Q (F0 m pc ls (.int v :: .ref (ad (20 * k + 2 + a)) :: rest)) := te_put (C := RX3) (T := TX3) (N := 7) X hR hS (id := (20 * k + 2 + a)) (by omega) (teE_memb cy ad O S hk ha) hin rfl 5 (by decide) hlink rfl tyX3 tyX3_ok nmX3 rfl (by decide +kernel) (Nat.le_of_ble_eq_true rfl) ((teE_memb cy ad O (teu S k (2 + 10 * a + 8) v) hk ha).trans (by simp [teu])) (teu_o (fun i h1 h2 hw => by unfold teW at hw; split at hw <;> omega)) hdg kk
theorem rg_3_6 (X : teC Ts own cc nL ret D cy ba p s m args meth c) (hR : teR D cy ad ba O S H) {k a : Nat} (hk : k < 18) (ha : a < 9) (hin : ∀ w ∈ wsX30, w ∈ Ts) {index : Nat} (hlink : Cond.fieldLink own index "TandemExchange$Member" "missedInRow" "I" ∈ Ts) (hdg : decode cc pc = .ok (.getfield index, 3)) (kk : W p l e R s m args below meth c H locs cells slots Q (F0 m (pc + 3) ls ((.int (S k (2 + 10 * a + 9))) :: rest))) : W p l e R s m args below meth c H locs cells slots Q (F0 m pc ls (.ref (ad (20 * k + 2 + a)) :: rest)) := te_get (C := RX3) (T := TX3) (N := 7) X hR (id := (20 * k + 2 + a)) (by omega) (teE_memb cy ad O S hk ha) hin rfl 6 (by decide) hlink rfl rfl hdg kk
theorem rp_3_6 (X : teC Ts own cc nL ret D cy ba p s m args meth c) (hR : teR D cy ad ba O S H) (hS : va_S (teA ba) s.heap H locs) {k a : Nat} (hk : k < 18) (ha : a < 9) (hin : ∀ w ∈ wsX30, w ∈ Ts) {index : Nat} (hlink : Cond.fieldLink own index "TandemExchange$Member" "missedInRow" "I" ∈ Ts) {v : Int32} (hdg : decode cc pc = .ok (.putfield index, 3)) (kk : ∀ (H1 : Heap) (locs1 : List Loc), teR D cy ad ba O (teu S k (2 + 10 * a + 9) v) H1 → va_S (teA ba) s.heap H1 locs1 → W p l e R s m args below meth c H1 locs1 cells slots Q (F0 m (pc + 3) ls rest)) : W p l e R s m args below meth c H locs cells slots Q (F0 m pc ls (.int v :: .ref (ad (20 * k + 2 + a)) :: rest)) := te_put (C := RX3) (T := TX3) (N := 7) X hR hS (id := (20 * k + 2 + a)) (by omega) (teE_memb cy ad O S hk ha) hin rfl 6 (by decide) hlink rfl tyX3 tyX3_ok nmX3 rfl (by decide +kernel) (Nat.le_of_ble_eq_true rfl) ((teE_memb cy ad O (teu S k (2 + 10 * a + 9) v) hk ha).trans (by simp [teu])) (teu_o (fun i h1 h2 hw => by unfold teW at hw; split at hw <;> omega)) hdg kk
theorem rg_4_0 (X : teC Ts own cc nL ret D cy ba p s m args meth c) (hR : teR D cy ad ba O S H) (hin : ∀ w ∈ wsX40, w ∈ Ts) {index : Nat} (hlink : Cond.fieldLink own index "TandemExchange$Text" "characters" "[C" ∈ Ts) (hdg : decode cc pc = .ok (.getfield index, 3)) (kk : W p l e R s m args below meth c H locs cells slots Q (F0 m (pc + 3) ls ((.ref (ad 362)) :: rest))) : W p l e R s m args below meth c H locs cells slots Q (F0 m pc ls (.ref (ad 361) :: rest)) := te_get (C := RX4) (T := TX4) (N := 2) X hR (id := 361) (by decide) (rfl) hin rfl 0 (by decide) hlink rfl rfl hdg kk
theorem rg_4_1 (X : teC Ts own cc nL ret D cy ba p s m args meth c) (hR : teR D cy ad ba O S H) (hin : ∀ w ∈ wsX40, w ∈ Ts) {index : Nat} (hlink : Cond.fieldLink own index "TandemExchange$Text" "length" "I" ∈ Ts) (hdg : decode cc pc = .ok (.getfield index, 3)) (kk : W p l e R s m args below meth c H locs cells slots Q (F0 m (pc + 3) ls ((.int (S 361 0)) :: rest))) : W p l e R s m args below meth c H locs cells slots Q (F0 m pc ls (.ref (ad 361) :: rest)) := te_get (C := RX4) (T := TX4) (N := 2) X hR (id := 361) (by decide) (rfl) hin rfl 1 (by decide) hlink rfl rfl hdg kk
theorem rp_4_1 (X : teC Ts own cc nL ret D cy ba p s m args meth c) (hR : teR D cy ad ba O S H) (hS : va_S (teA ba) s.heap H locs) (hin : ∀ w ∈ wsX40, w ∈ Ts) {index : Nat} (hlink : Cond.fieldLink own index "TandemExchange$Text" "length" "I" ∈ Ts) {v : Int32} (hdg : decode cc pc = .ok (.putfield index, 3)) (kk : ∀ (H1 : Heap) (locs1 : List Loc), teR D cy ad ba O (teu S 361 0 v) H1 → va_S (teA ba) s.heap H1 locs1 → W p l e R s m args below meth c H1 locs1 cells slots Q (F0 m (pc + 3) ls rest)) : W p l e R s m args below meth c H locs cells slots Q (F0 m pc ls (.int v :: .ref (ad 361) :: rest)) := te_put (C := RX4) (T := TX4) (N := 2) X hR hS (id := 361) (by decide) (rfl) hin rfl 1 (by decide) hlink rfl tyX4 tyX4_ok nmX4 rfl (by decide +kernel) (Nat.le_of_ble_eq_true rfl) ((by simp [teE, teu])) (teu_o (fun i h1 h2 hw => by unfold teW at hw; split at hw <;> omega)) hdg kk
theorem rg_5_0 (X : teC Ts own cc nL ret D cy ba p s m args meth c) (hR : teR D cy ad ba O S H) (hin : ∀ w ∈ wsX50, w ∈ Ts) {index : Nat} (hlink : Cond.fieldLink own index "TandemExchange" "text" "LTandemExchange$Text;" ∈ Ts) (hdg : decode cc pc = .ok (.getfield index, 3)) (kk : W p l e R s m args below meth c H locs cells slots Q (F0 m (pc + 3) ls ((.ref (ad 361)) :: rest))) : W p l e R s m args below meth c H locs cells slots Q (F0 m pc ls (.ref (ad 360) :: rest)) := te_get (C := RX5) (T := TX5) (N := 7) X hR (id := 360) (by decide) (rfl) hin rfl 0 (by decide) hlink rfl rfl hdg kk
theorem rg_5_1 (X : teC Ts own cc nL ret D cy ba p s m args meth c) (hR : teR D cy ad ba O S H) (hin : ∀ w ∈ wsX50, w ∈ Ts) {index : Nat} (hlink : Cond.fieldLink own index "TandemExchange" "circle" "LTandemExchange$Circle;" ∈ Ts) (hdg : decode cc pc = .ok (.getfield index, 3)) (kk : W p l e R s m args below meth c H locs cells slots Q (F0 m (pc + 3) ls ((.ref (ad (20 * 0))) :: rest))) : W p l e R s m args below meth c H locs cells slots Q (F0 m pc ls (.ref (ad 360) :: rest)) := te_get (C := RX5) (T := TX5) (N := 7) X hR (id := 360) (by decide) (rfl) hin rfl 1 (by decide) hlink rfl rfl hdg kk
theorem rg_5_2 (X : teC Ts own cc nL ret D cy ba p s m args meth c) (hR : teR D cy ad ba O S H) (hin : ∀ w ∈ wsX50, w ∈ Ts) {index : Nat} (hlink : Cond.fieldLink own index "TandemExchange" "trial" "LTandemExchange$Circle;" ∈ Ts) (hdg : decode cc pc = .ok (.getfield index, 3)) (kk : W p l e R s m args below meth c H locs cells slots Q (F0 m (pc + 3) ls ((.ref (ad (20 * 1))) :: rest))) : W p l e R s m args below meth c H locs cells slots Q (F0 m pc ls (.ref (ad 360) :: rest)) := te_get (C := RX5) (T := TX5) (N := 7) X hR (id := 360) (by decide) (rfl) hin rfl 2 (by decide) hlink rfl rfl hdg kk
theorem rg_5_3 (X : teC Ts own cc nL ret D cy ba p s m args meth c) (hR : teR D cy ad ba O S H) (hin : ∀ w ∈ wsX50, w ∈ Ts) {index : Nat} (hlink : Cond.fieldLink own index "TandemExchange" "history" "LTandemExchange$History;" ∈ Ts) (hdg : decode cc pc = .ok (.getfield index, 3)) (kk : W p l e R s m args below meth c H locs cells slots Q (F0 m (pc + 3) ls ((.ref (ad 363)) :: rest))) : W p l e R s m args below meth c H locs cells slots Q (F0 m pc ls (.ref (ad 360) :: rest)) := te_get (C := RX5) (T := TX5) (N := 7) X hR (id := 360) (by decide) (rfl) hin rfl 3 (by decide) hlink rfl rfl hdg kk
theorem rg_5_4 (X : teC Ts own cc nL ret D cy ba p s m args meth c) (hR : teR D cy ad ba O S H) (hin : ∀ w ∈ wsX50, w ∈ Ts) {index : Nat} (hlink : Cond.fieldLink own index "TandemExchange" "slots" "[LTandemExchange$Circle;" ∈ Ts) (hdg : decode cc pc = .ok (.getfield index, 3)) (kk : W p l e R s m args below meth c H locs cells slots Q (F0 m (pc + 3) ls ((.ref (ad 365)) :: rest))) : W p l e R s m args below meth c H locs cells slots Q (F0 m pc ls (.ref (ad 360) :: rest)) := te_get (C := RX5) (T := TX5) (N := 7) X hR (id := 360) (by decide) (rfl) hin rfl 4 (by decide) hlink rfl rfl hdg kk
theorem rg_5_5 (X : teC Ts own cc nL ret D cy ba p s m args meth c) (hR : teR D cy ad ba O S H) (hin : ∀ w ∈ wsX50, w ∈ Ts) {index : Nat} (hlink : Cond.fieldLink own index "TandemExchange" "saved" "[Z" ∈ Ts) (hdg : decode cc pc = .ok (.getfield index, 3)) (kk : W p l e R s m args below meth c H locs cells slots Q (F0 m (pc + 3) ls ((.ref (ad 366)) :: rest))) : W p l e R s m args below meth c H locs cells slots Q (F0 m pc ls (.ref (ad 360) :: rest)) := te_get (C := RX5) (T := TX5) (N := 7) X hR (id := 360) (by decide) (rfl) hin rfl 5 (by decide) hlink rfl rfl hdg kk
theorem rg_5_6 (X : teC Ts own cc nL ret D cy ba p s m args meth c) (hR : teR D cy ad ba O S H) (hin : ∀ w ∈ wsX50, w ∈ Ts) {index : Nat} (hlink : Cond.fieldLink own index "TandemExchange" "bestMatching" "LTandemExchange$BestMatching;" ∈ Ts) (hdg : decode cc pc = .ok (.getfield index, 3)) (kk : W p l e R s m args below meth c H locs cells slots Q (F0 m (pc + 3) ls ((.ref (ad 367)) :: rest))) : W p l e R s m args below meth c H locs cells slots Q (F0 m pc ls (.ref (ad 360) :: rest)) := te_get (C := RX5) (T := TX5) (N := 7) X hR (id := 360) (by decide) (rfl) hin rfl 6 (by decide) hlink rfl rfl hdg kk
theorem rg_6_0 (X : teC Ts own cc nL ret D cy ba p s m args meth c) (hR : teR D cy ad ba O S H) (hin : ∀ w ∈ wsX60, w ∈ Ts) {index : Nat} (hlink : Cond.fieldLink own index "TandemExchangeModel" "refusal" "I" ∈ Ts) (hdg : decode cc pc = .ok (.getfield index, 3)) (kk : W p l e R s m args below meth c H locs cells slots Q (F0 m (pc + 3) ls ((.int (S 369 0)) :: rest))) : W p l e R s m args below meth c H locs cells slots Q (F0 m pc ls (.ref (ad 369) :: rest)) := te_get (C := RX6) (T := TX6) (N := 13) X hR (id := 369) (by decide) (rfl) hin rfl 0 (by decide) hlink rfl rfl hdg kk
theorem rp_6_0 (X : teC Ts own cc nL ret D cy ba p s m args meth c) (hR : teR D cy ad ba O S H) (hS : va_S (teA ba) s.heap H locs) (hin : ∀ w ∈ wsX60, w ∈ Ts) {index : Nat} (hlink : Cond.fieldLink own index "TandemExchangeModel" "refusal" "I" ∈ Ts) {v : Int32} (hdg : decode cc pc = .ok (.putfield index, 3)) (kk : ∀ (H1 : Heap) (locs1 : List Loc), teR D cy ad ba O (teu S 369 0 v) H1 → va_S (teA ba) s.heap H1 locs1 → W p l e R s m args below meth c H1 locs1 cells slots Q (F0 m (pc + 3) ls rest)) : W p l e R s m args below meth c H locs cells slots Q (F0 m pc ls (.int v :: .ref (ad 369) :: rest)) := te_put (C := RX6) (T := TX6) (N := 13) X hR hS (id := 369) (by decide) (rfl) hin rfl 0 (by decide) hlink rfl tyX6 tyX6_ok nmX6 rfl (by decide +kernel) (Nat.le_of_ble_eq_true rfl) ((by simp [teE, teu])) (teu_o (fun i h1 h2 hw => by unfold teW at hw; split at hw <;> omega)) hdg kk
theorem rg_6_1 (X : teC Ts own cc nL ret D cy ba p s m args meth c) (hR : teR D cy ad ba O S H) (hin : ∀ w ∈ wsX60, w ∈ Ts) {index : Nat} (hlink : Cond.fieldLink own index "TandemExchangeModel" "text" "[I" ∈ Ts) (hdg : decode cc pc = .ok (.getfield index, 3)) (kk : W p l e R s m args below meth c H locs cells slots Q (F0 m (pc + 3) ls ((.ref (ad 370)) :: rest))) : W p l e R s m args below meth c H locs cells slots Q (F0 m pc ls (.ref (ad 369) :: rest)) := te_get (C := RX6) (T := TX6) (N := 13) X hR (id := 369) (by decide) (rfl) hin rfl 1 (by decide) hlink rfl rfl hdg kk
theorem rg_6_2 (X : teC Ts own cc nL ret D cy ba p s m args meth c) (hR : teR D cy ad ba O S H) (hin : ∀ w ∈ wsX60, w ∈ Ts) {index : Nat} (hlink : Cond.fieldLink own index "TandemExchangeModel" "textSize" "I" ∈ Ts) (hdg : decode cc pc = .ok (.getfield index, 3)) (kk : W p l e R s m args below meth c H locs cells slots Q (F0 m (pc + 3) ls ((.int (S 369 1)) :: rest))) : W p l e R s m args below meth c H locs cells slots Q (F0 m pc ls (.ref (ad 369) :: rest)) := te_get (C := RX6) (T := TX6) (N := 13) X hR (id := 369) (by decide) (rfl) hin rfl 2 (by decide) hlink rfl rfl hdg kk
theorem rp_6_2 (X : teC Ts own cc nL ret D cy ba p s m args meth c) (hR : teR D cy ad ba O S H) (hS : va_S (teA ba) s.heap H locs) (hin : ∀ w ∈ wsX60, w ∈ Ts) {index : Nat} (hlink : Cond.fieldLink own index "TandemExchangeModel" "textSize" "I" ∈ Ts) {v : Int32} (hdg : decode cc pc = .ok (.putfield index, 3)) (kk : ∀ (H1 : Heap) (locs1 : List Loc), teR D cy ad ba O (teu S 369 1 v) H1 → va_S (teA ba) s.heap H1 locs1 → W p l e R s m args below meth c H1 locs1 cells slots Q (F0 m (pc + 3) ls rest)) : W p l e R s m args below meth c H locs cells slots Q (F0 m pc ls (.int v :: .ref (ad 369) :: rest)) := te_put (C := RX6) (T := TX6) (N := 13) X hR hS (id := 369) (by decide) (rfl) hin rfl 2 (by decide) hlink rfl tyX6 tyX6_ok nmX6 rfl (by decide +kernel) (Nat.le_of_ble_eq_true rfl) ((by simp [teE, teu])) (teu_o (fun i h1 h2 hw => by unfold teW at hw; split at hw <;> omega)) hdg kk
theorem rg_6_3 (X : teC Ts own cc nL ret D cy ba p s m args meth c) (hR : teR D cy ad ba O S H) (hin : ∀ w ∈ wsX60, w ∈ Ts) {index : Nat} (hlink : Cond.fieldLink own index "TandemExchangeModel" "spot" "I" ∈ Ts) (hdg : decode cc pc = .ok (.getfield index, 3)) (kk : W p l e R s m args below meth c H locs cells slots Q (F0 m (pc + 3) ls ((.int (S 369 2)) :: rest))) : W p l e R s m args below meth c H locs cells slots Q (F0 m pc ls (.ref (ad 369) :: rest)) := te_get (C := RX6) (T := TX6) (N := 13) X hR (id := 369) (by decide) (rfl) hin rfl 3 (by decide) hlink rfl rfl hdg kk
theorem rp_6_3 (X : teC Ts own cc nL ret D cy ba p s m args meth c) (hR : teR D cy ad ba O S H) (hS : va_S (teA ba) s.heap H locs) (hin : ∀ w ∈ wsX60, w ∈ Ts) {index : Nat} (hlink : Cond.fieldLink own index "TandemExchangeModel" "spot" "I" ∈ Ts) {v : Int32} (hdg : decode cc pc = .ok (.putfield index, 3)) (kk : ∀ (H1 : Heap) (locs1 : List Loc), teR D cy ad ba O (teu S 369 2 v) H1 → va_S (teA ba) s.heap H1 locs1 → W p l e R s m args below meth c H1 locs1 cells slots Q (F0 m (pc + 3) ls rest)) : W p l e R s m args below meth c H locs cells slots Q (F0 m pc ls (.int v :: .ref (ad 369) :: rest)) := te_put (C := RX6) (T := TX6) (N := 13) X hR hS (id := 369) (by decide) (rfl) hin rfl 3 (by decide) hlink rfl tyX6 tyX6_ok nmX6 rfl (by decide +kernel) (Nat.le_of_ble_eq_true rfl) ((by simp [teE, teu])) (teu_o (fun i h1 h2 hw => by unfold teW at hw; split at hw <;> omega)) hdg kk
theorem rg_6_4 (X : teC Ts own cc nL ret D cy ba p s m args meth c) (hR : teR D cy ad ba O S H) (hin : ∀ w ∈ wsX60, w ∈ Ts) {index : Nat} (hlink : Cond.fieldLink own index "TandemExchangeModel" "read" "[I" ∈ Ts) (hdg : decode cc pc = .ok (.getfield index, 3)) (kk : W p l e R s m args below meth c H locs cells slots Q (F0 m (pc + 3) ls ((.ref (ad 371)) :: rest))) : W p l e R s m args below meth c H locs cells slots Q (F0 m pc ls (.ref (ad 369) :: rest)) := te_get (C := RX6) (T := TX6) (N := 13) X hR (id := 369) (by decide) (rfl) hin rfl 4 (by decide) hlink rfl rfl hdg kk
theorem rg_6_5 (X : teC Ts own cc nL ret D cy ba p s m args meth c) (hR : teR D cy ad ba O S H) (hin : ∀ w ∈ wsX60, w ∈ Ts) {index : Nat} (hlink : Cond.fieldLink own index "TandemExchangeModel" "now" "[I" ∈ Ts) (hdg : decode cc pc = .ok (.getfield index, 3)) (kk : W p l e R s m args below meth c H locs cells slots Q (F0 m (pc + 3) ls ((.ref (ad 372)) :: rest))) : W p l e R s m args below meth c H locs cells slots Q (F0 m pc ls (.ref (ad 369) :: rest)) := te_get (C := RX6) (T := TX6) (N := 13) X hR (id := 369) (by decide) (rfl) hin rfl 5 (by decide) hlink rfl rfl hdg kk
theorem rg_6_6 (X : teC Ts own cc nL ret D cy ba p s m args meth c) (hR : teR D cy ad ba O S H) (hin : ∀ w ∈ wsX60, w ∈ Ts) {index : Nat} (hlink : Cond.fieldLink own index "TandemExchangeModel" "trial" "[I" ∈ Ts) (hdg : decode cc pc = .ok (.getfield index, 3)) (kk : W p l e R s m args below meth c H locs cells slots Q (F0 m (pc + 3) ls ((.ref (ad 373)) :: rest))) : W p l e R s m args below meth c H locs cells slots Q (F0 m pc ls (.ref (ad 369) :: rest)) := te_get (C := RX6) (T := TX6) (N := 13) X hR (id := 369) (by decide) (rfl) hin rfl 6 (by decide) hlink rfl rfl hdg kk
theorem rg_6_7 (X : teC Ts own cc nL ret D cy ba p s m args meth c) (hR : teR D cy ad ba O S H) (hin : ∀ w ∈ wsX60, w ∈ Ts) {index : Nat} (hlink : Cond.fieldLink own index "TandemExchangeModel" "diary" "[I" ∈ Ts) (hdg : decode cc pc = .ok (.getfield index, 3)) (kk : W p l e R s m args below meth c H locs cells slots Q (F0 m (pc + 3) ls ((.ref (ad 374)) :: rest))) : W p l e R s m args below meth c H locs cells slots Q (F0 m pc ls (.ref (ad 369) :: rest)) := te_get (C := RX6) (T := TX6) (N := 13) X hR (id := 369) (by decide) (rfl) hin rfl 7 (by decide) hlink rfl rfl hdg kk
theorem rg_6_8 (X : teC Ts own cc nL ret D cy ba p s m args meth c) (hR : teR D cy ad ba O S H) (hin : ∀ w ∈ wsX60, w ∈ Ts) {index : Nat} (hlink : Cond.fieldLink own index "TandemExchangeModel" "acts" "I" ∈ Ts) (hdg : decode cc pc = .ok (.getfield index, 3)) (kk : W p l e R s m args below meth c H locs cells slots Q (F0 m (pc + 3) ls ((.int (S 369 3)) :: rest))) : W p l e R s m args below meth c H locs cells slots Q (F0 m pc ls (.ref (ad 369) :: rest)) := te_get (C := RX6) (T := TX6) (N := 13) X hR (id := 369) (by decide) (rfl) hin rfl 8 (by decide) hlink rfl rfl hdg kk
theorem rp_6_8 (X : teC Ts own cc nL ret D cy ba p s m args meth c) (hR : teR D cy ad ba O S H) (hS : va_S (teA ba) s.heap H locs) (hin : ∀ w ∈ wsX60, w ∈ Ts) {index : Nat} (hlink : Cond.fieldLink own index "TandemExchangeModel" "acts" "I" ∈ Ts) {v : Int32} (hdg : decode cc pc = .ok (.putfield index, 3)) (kk : ∀ (H1 : Heap) (locs1 : List Loc), teR D cy ad ba O (teu S 369 3 v) H1 → va_S (teA ba) s.heap H1 locs1 → W p l e R s m args below meth c H1 locs1 cells slots Q (F0 m (pc + 3) ls rest)) : W p l e R s m args below meth c H locs cells slots Q (F0 m pc ls (.int v :: .ref (ad 369) :: rest)) := te_put (C := RX6) (T := TX6) (N := 13) X hR hS (id := 369) (by decide) (rfl) hin rfl 8 (by decide) hlink rfl tyX6 tyX6_ok nmX6 rfl (by decide +kernel) (Nat.le_of_ble_eq_true rfl) ((by simp [teE, teu])) (teu_o (fun i h1 h2 hw => by unfold teW at hw; split at hw <;> omega)) hdg kk
theorem rg_6_9 (X : teC Ts own cc nL ret D cy ba p s m args meth c) (hR : teR D cy ad ba O S H) (hin : ∀ w ∈ wsX60, w ∈ Ts) {index : Nat} (hlink : Cond.fieldLink own index "TandemExchangeModel" "kept" "[I" ∈ Ts) (hdg : decode cc pc = .ok (.getfield index, 3)) (kk : W p l e R s m args below meth c H locs cells slots Q (F0 m (pc + 3) ls ((.ref (ad 375)) :: rest))) : W p l e R s m args below meth c H locs cells slots Q (F0 m pc ls (.ref (ad 369) :: rest)) := te_get (C := RX6) (T := TX6) (N := 13) X hR (id := 369) (by decide) (rfl) hin rfl 9 (by decide) hlink rfl rfl hdg kk
theorem rg_6_10 (X : teC Ts own cc nL ret D cy ba p s m args meth c) (hR : teR D cy ad ba O S H) (hin : ∀ w ∈ wsX60, w ∈ Ts) {index : Nat} (hlink : Cond.fieldLink own index "TandemExchangeModel" "isKept" "[Z" ∈ Ts) (hdg : decode cc pc = .ok (.getfield index, 3)) (kk : W p l e R s m args below meth c H locs cells slots Q (F0 m (pc + 3) ls ((.ref (ad 376)) :: rest))) : W p l e R s m args below meth c H locs cells slots Q (F0 m pc ls (.ref (ad 369) :: rest)) := te_get (C := RX6) (T := TX6) (N := 13) X hR (id := 369) (by decide) (rfl) hin rfl 10 (by decide) hlink rfl rfl hdg kk
theorem rg_6_11 (X : teC Ts own cc nL ret D cy ba p s m args meth c) (hR : teR D cy ad ba O S H) (hin : ∀ w ∈ wsX60, w ∈ Ts) {index : Nat} (hlink : Cond.fieldLink own index "TandemExchangeModel" "pairs" "[I" ∈ Ts) (hdg : decode cc pc = .ok (.getfield index, 3)) (kk : W p l e R s m args below meth c H locs cells slots Q (F0 m (pc + 3) ls ((.ref (ad 377)) :: rest))) : W p l e R s m args below meth c H locs cells slots Q (F0 m pc ls (.ref (ad 369) :: rest)) := te_get (C := RX6) (T := TX6) (N := 13) X hR (id := 369) (by decide) (rfl) hin rfl 11 (by decide) hlink rfl rfl hdg kk
theorem rg_6_12 (X : teC Ts own cc nL ret D cy ba p s m args meth c) (hR : teR D cy ad ba O S H) (hin : ∀ w ∈ wsX60, w ∈ Ts) {index : Nat} (hlink : Cond.fieldLink own index "TandemExchangeModel" "sums" "[I" ∈ Ts) (hdg : decode cc pc = .ok (.getfield index, 3)) (kk : W p l e R s m args below meth c H locs cells slots Q (F0 m (pc + 3) ls ((.ref (ad 378)) :: rest))) : W p l e R s m args below meth c H locs cells slots Q (F0 m pc ls (.ref (ad 369) :: rest)) := te_get (C := RX6) (T := TX6) (N := 13) X hR (id := 369) (by decide) (rfl) hin rfl 12 (by decide) hlink rfl rfl hdg kk
theorem ra_lev (X : teC Ts own cc nL ret D cy ba p s m args meth c) (hR : teR D cy ad ba O S H) {k a : Nat} (hk : k < 18) (ha : a < 9) {i : Int32} (hin : tein i 4 = true) (hdg : decode cc pc = .ok (.iaload, 1)) (kk : W p l e R s m args below meth c H locs cells slots Q (F0 m (pc + 1) ls (.int (S k (2 + 10 * a + i.toNatClampNeg)) :: rest))) : W p l e R s m args below meth c H locs cells slots Q (F0 m pc ls (.int i :: .ref (ad (20 * k + 11 + a)) :: rest)) := te_iald X hR (id := 20 * k + 11 + a) (by omega) (teE_levs cy ad O S hk ha) hin hdg (by rw [if_pos (tein_lt hin)]; exact kk)
theorem rs_lev (X : teC Ts own cc nL ret D cy ba p s m args meth c) (hR : teR D cy ad ba O S H) (hS : va_S (teA ba) s.heap H locs) {k a : Nat} (hk : k < 18) (ha : a < 9) {i v : Int32} (hin : tein i 4 = true) (hdg : decode cc pc = .ok (.iastore, 1)) (kk : ∀ (H1 : Heap) (locs1 : List Loc), teR D cy ad ba O (teu S k (2 + 10 * a + i.toNatClampNeg) v) H1 → va_S (teA ba) s.heap H1 locs1 → W p l e R s m args below meth c H1 locs1 cells slots Q (F0 m (pc + 1) ls rest)) : W p l e R s m args below meth c H locs cells slots Q (F0 m pc ls (.int v :: .int i :: .ref (ad (20 * k + 11 + a)) :: rest)) := by
  have hi := tein_lt hin
  refine te_iast X hR hS (id := 20 * k + 11 + a) (by omega) (teE_levs cy ad O S hk ha) hin ((teE_levs cy ad O _ hk ha).trans ?_) (teu_o (fun i h1 h2 hw => by unfold teW at hw; split at hw <;> omega)) hdg kk
  congr 4
  funext j
  dsimp only [upd, teu]
  by_cases h1 : j = i.toNatClampNeg
  · subst h1
    rw [if_pos hi, if_pos ⟨rfl, rfl⟩, if_pos rfl]
  · rw [if_neg h1]
    by_cases h2 : j < 4
    · rw [if_pos h2, if_pos h2, if_neg (by omega)]
    · rw [if_neg h2, if_neg h2]
theorem ra_mem (X : teC Ts own cc nL ret D cy ba p s m args meth c) (hR : teR D cy ad ba O S H) {k : Nat} (hk : k < 18) {i : Int32} (hin : tein i 9 = true) (hdg : decode cc pc = .ok (.aaload, 1)) (kk : W p l e R s m args below meth c H locs cells slots Q (F0 m (pc + 1) ls (.ref (ad (20 * k + 2 + i.toNatClampNeg)) :: rest))) : W p l e R s m args below meth c H locs cells slots Q (F0 m pc ls (.int i :: .ref (ad (20 * k + 1)) :: rest)) := te_aald X hR (id := 20 * k + 1) (by omega) (t0 := 5) rfl (teE_mems cy ad O S hk) hin hdg kk
theorem ra_his (X : teC Ts own cc nL ret D cy ba p s m args meth c) (hR : teR D cy ad ba O S H) {i : Int32} (hin : tein i 14 = true) (hdg : decode cc pc = .ok (.aaload, 1)) (kk : W p l e R s m args below meth c H locs cells slots Q (F0 m (pc + 1) ls (.ref (ad (20 * (2 + i.toNatClampNeg))) :: rest))) : W p l e R s m args below meth c H locs cells slots Q (F0 m pc ls (.int i :: .ref (ad 364) :: rest)) := te_aald X hR (id := 364) (by decide) (t0 := 4) rfl rfl hin hdg kk
theorem ra_slo (X : teC Ts own cc nL ret D cy ba p s m args meth c) (hR : teR D cy ad ba O S H) {i : Int32} (hin : tein i 2 = true) (hdg : decode cc pc = .ok (.aaload, 1)) (kk : W p l e R s m args below meth c H locs cells slots Q (F0 m (pc + 1) ls (.ref (ad (20 * (16 + i.toNatClampNeg))) :: rest))) : W p l e R s m args below meth c H locs cells slots Q (F0 m pc ls (.int i :: .ref (ad 365) :: rest)) := te_aald X hR (id := 365) (by decide) (t0 := 4) rfl rfl hin hdg kk
theorem ra_chr (X : teC Ts own cc nL ret D cy ba p s m args meth c) (hR : teR D cy ad ba O S H) {i : Int32} (hin : tein i 90 = true) (hdg : decode cc pc = .ok (.caload, 1)) (kk : W p l e R s m args below meth c H locs cells slots Q (F0 m (pc + 1) ls (.int (S 362 i.toNatClampNeg) :: rest))) : W p l e R s m args below meth c H locs cells slots Q (F0 m pc ls (.int i :: .ref (ad 362) :: rest)) := te_cald X hR (id := 362) (by decide) rfl hin hdg kk
theorem rs_chr (X : teC Ts own cc nL ret D cy ba p s m args meth c) (hR : teR D cy ad ba O S H) (hS : va_S (teA ba) s.heap H locs) {i v : Int32} (hin : tein i 90 = true) (hdg : decode cc pc = .ok (.castore, 1)) (kk : ∀ (H1 : Heap) (locs1 : List Loc), teR D cy ad ba O (teu S 362 i.toNatClampNeg (vp_nar .char v)) H1 → va_S (teA ba) s.heap H1 locs1 → W p l e R s m args below meth c H1 locs1 cells slots Q (F0 m (pc + 1) ls rest)) : W p l e R s m args below meth c H locs cells slots Q (F0 m pc ls (.int v :: .int i :: .ref (ad 362) :: rest)) := te_cast X hR hS (id := 362) (by decide) rfl hin (by show Sum.inl _ = Sum.inl _; congr 4; funext j; unfold upd teu; simp) (teu_o (fun i h1 h2 hw => by unfold teW at hw; split at hw <;> omega)) hdg kk
theorem ra_z366 (X : teC Ts own cc nL ret D cy ba p s m args meth c) (hR : teR D cy ad ba O S H) {i : Int32} (hin : tein i 2 = true) (hdg : decode cc pc = .ok (.baload, 1)) (kk : W p l e R s m args below meth c H locs cells slots Q (F0 m (pc + 1) ls (.int (S 366 i.toNatClampNeg) :: rest))) : W p l e R s m args below meth c H locs cells slots Q (F0 m pc ls (.int i :: .ref (ad 366) :: rest)) := te_zald X hR (id := 366) (by decide) rfl hin hdg kk
theorem rs_z366 (X : teC Ts own cc nL ret D cy ba p s m args meth c) (hR : teR D cy ad ba O S H) (hS : va_S (teA ba) s.heap H locs) {i v : Int32} (hin : tein i 2 = true) (hdg : decode cc pc = .ok (.bastore, 1)) (kk : ∀ (H1 : Heap) (locs1 : List Loc), teR D cy ad ba O (teu S 366 i.toNatClampNeg (vp_nar .boolean v)) H1 → va_S (teA ba) s.heap H1 locs1 → W p l e R s m args below meth c H1 locs1 cells slots Q (F0 m (pc + 1) ls rest)) : W p l e R s m args below meth c H locs cells slots Q (F0 m pc ls (.int v :: .int i :: .ref (ad 366) :: rest)) := te_zast X hR hS (id := 366) (by decide) rfl hin (by show Sum.inl _ = Sum.inl _; congr 4; funext j; unfold upd teu; simp) (teu_o (fun i h1 h2 hw => by unfold teW at hw; split at hw <;> omega)) hdg kk
theorem ra_z376 (X : teC Ts own cc nL ret D cy ba p s m args meth c) (hR : teR D cy ad ba O S H) {i : Int32} (hin : tein i 2 = true) (hdg : decode cc pc = .ok (.baload, 1)) (kk : W p l e R s m args below meth c H locs cells slots Q (F0 m (pc + 1) ls (.int (S 376 i.toNatClampNeg) :: rest))) : W p l e R s m args below meth c H locs cells slots Q (F0 m pc ls (.int i :: .ref (ad 376) :: rest)) := te_zald X hR (id := 376) (by decide) rfl hin hdg kk
theorem rs_z376 (X : teC Ts own cc nL ret D cy ba p s m args meth c) (hR : teR D cy ad ba O S H) (hS : va_S (teA ba) s.heap H locs) {i v : Int32} (hin : tein i 2 = true) (hdg : decode cc pc = .ok (.bastore, 1)) (kk : ∀ (H1 : Heap) (locs1 : List Loc), teR D cy ad ba O (teu S 376 i.toNatClampNeg (vp_nar .boolean v)) H1 → va_S (teA ba) s.heap H1 locs1 → W p l e R s m args below meth c H1 locs1 cells slots Q (F0 m (pc + 1) ls rest)) : W p l e R s m args below meth c H locs cells slots Q (F0 m pc ls (.int v :: .int i :: .ref (ad 376) :: rest)) := te_zast X hR hS (id := 376) (by decide) rfl hin (by show Sum.inl _ = Sum.inl _; congr 4; funext j; unfold upd teu; simp) (teu_o (fun i h1 h2 hw => by unfold teW at hw; split at hw <;> omega)) hdg kk
/-- the numbers of the rows of ints -/
def teK (r : Nat) : Bool := r == 368 || r == 370 || r == 371 || r == 372 || r == 373 || r == 374 || r == 375 || r == 377 || r == 378
theorem teK_360 {r : Nat} (h : teK r = true) : 360 ≤ r ∧ r < 380 := by
  simp only [teK, Bool.or_eq_true, beq_iff_eq] at h
  omega
theorem teE_row (cy : Nat → ClassId) (ad : Nat → Nat) (O : Int64) (S : teS) {r : Nat} (h : teK r = true) : teE cy ad O S r = .inl (cy 0, teI r, .inl (S r)) := by
  simp only [teK, Bool.or_eq_true, beq_iff_eq] at h
  rcases h with (((((((h | h) | h) | h) | h) | h) | h) | h) | h <;> subst h <;> rfl
theorem ra_int (X : teC Ts own cc nL ret D cy ba p s m args meth c) (hR : teR D cy ad ba O S H) {r : Nat} (hr : teK r = true) {i : Int32} (hin : tein i (teI r) = true) (hdg : decode cc pc = .ok (.iaload, 1)) (kk : W p l e R s m args below meth c H locs cells slots Q (F0 m (pc + 1) ls (.int (S r i.toNatClampNeg) :: rest))) : W p l e R s m args below meth c H locs cells slots Q (F0 m pc ls (.int i :: .ref (ad r) :: rest)) := te_iald X hR (id := r) (teK_360 hr).2 (teE_row cy ad O S hr) hin hdg kk
theorem rs_int (X : teC Ts own cc nL ret D cy ba p s m args meth c) (hR : teR D cy ad ba O S H) (hS : va_S (teA ba) s.heap H locs) {r : Nat} (hr : teK r = true) {i v : Int32} (hin : tein i (teI r) = true) (hdg : decode cc pc = .ok (.iastore, 1)) (kk : ∀ (H1 : Heap) (locs1 : List Loc), teR D cy ad ba O (teu S r i.toNatClampNeg v) H1 → va_S (teA ba) s.heap H1 locs1 → W p l e R s m args below meth c H1 locs1 cells slots Q (F0 m (pc + 1) ls rest)) : W p l e R s m args below meth c H locs cells slots Q (F0 m pc ls (.int v :: .int i :: .ref (ad r) :: rest)) := by
  have h360 := teK_360 hr
  refine te_iast X hR hS (id := r) h360.2 (teE_row cy ad O S hr) hin ((teE_row cy ad O _ hr).trans ?_) (teu_o (fun i h1 h2 hw => by unfold teW at hw; split at hw <;> omega)) hdg kk
  congr 4
  funext j
  unfold upd teu
  simp
end TEFLD
end
section
theorem te_hp {D : va_G} {cy : Nat → ClassId} {ad : Nat → Nat} {ba : Nat} {O : Int64} {S : teS} {H : Heap} {t : State} (ht : t.heap = H) (hR : teR D cy ad ba O S H) : teR D cy ad ba O S t.heap := by rw [ht]; exact hR
theorem te_lt1 {α β : Type} {x : α} {f : α → β} {r : β} (h : (fun (y : α) (g : α → β) => g y) x f = r) : f x = r := h
def lt1 {α β : Type} (x : α) (f : α → β) : β := f x
theorem lt1_e {α β : Type} {x : α} {f : α → β} {r : β} (h : lt1 x f = r) : f x = r := h
def teN (c : Nat) : String := match c with
  | 1 => "java/lang/IllegalArgumentException"
  | 2 => "java/lang/IllegalStateException"
  | _ => "java/lang/IndexOutOfBoundsException"
/-- contracts: a method that returns an int, a long, nothing; that may throw -/
abbrev cI (l : Launch) (y : MethodName) (ws : List Cond) (rm : Room) (D : va_G) (cy : Nat → ClassId) (ad : Nat → Nat) (ba : Nat) (O : Int64) (S : teS) (av : List Value) (r : Int32) (S1 : teS) : Prop :=
  Met l y ws rm (va_Pc av (teU D cy ad ba O S)) (va_Qi (fun a (u : teS) => a = r ∧ u = S1) (fun u t => teR D cy ad ba O u t.heap) (teA ba)) 0 0 (teA ba)
abbrev cJ (l : Launch) (y : MethodName) (ws : List Cond) (rm : Room) (D : va_G) (cy : Nat → ClassId) (ad : Nat → Nat) (ba : Nat) (O : Int64) (S : teS) (av : List Value) (r : Int64) (S1 : teS) : Prop :=
  Met l y ws rm (va_Pc av (teU D cy ad ba O S)) (va_Ql (fun a (u : teS) => a = r ∧ u = S1) (fun u t => teR D cy ad ba O u t.heap) (teA ba)) 0 0 (teA ba)
abbrev cV (l : Launch) (y : MethodName) (ws : List Cond) (rm : Room) (D : va_G) (cy : Nat → ClassId) (ad : Nat → Nat) (ba : Nat) (O : Int64) (S : teS) (av : List Value) (S1 : teS) : Prop :=
  Met l y ws rm (va_Pc av (teU D cy ad ba O S)) (va_Qv (fun (u : teS) => u = S1) (fun u t => teR D cy ad ba O u t.heap) (teA ba)) 0 0 (teA ba)
abbrev teXC (D : va_G) (cy : Nat → ClassId) (ad : Nat → Nat) (ba : Nat) (O : Int64) (S : teS) (ex : Nat → Prop) : String → State → State → Prop :=
  vx_X (fun _ : Unit => True) (fun E _ t => (∃ c, E = teN c ∧ ex c) ∧ teR D cy ad ba O S t.heap) (teA ba)
abbrev xI (l : Launch) (y : MethodName) (ws : List Cond) (rm : Room) (mc ms : Nat) (D : va_G) (cy : Nat → ClassId) (ad : Nat → Nat) (ba : Nat) (O : Int64) (S : teS) (av : List Value) (ok : Int32 → teS → Prop) (ex : Nat → Prop) : Prop :=
  vx_Met l y ws rm (va_Pc av (teU D cy ad ba O S)) (va_Qi ok (fun u t => teR D cy ad ba O u t.heap) (teA ba)) (teXC D cy ad ba O S ex) mc ms (teA ba)
abbrev xV (l : Launch) (y : MethodName) (ws : List Cond) (rm : Room) (mc ms : Nat) (D : va_G) (cy : Nat → ClassId) (ad : Nat → Nat) (ba : Nat) (O : Int64) (S : teS) (av : List Value) (ok : teS → Prop) (ex : Nat → Prop) : Prop :=
  vx_Met l y ws rm (va_Pc av (teU D cy ad ba O S)) (va_Qv ok (fun u t => teR D cy ad ba O u t.heap) (teA ba)) (teXC D cy ad ba O S ex) mc ms (teA ba)
theorem teU_blind {D : va_G} {cy : Nat → ClassId} {ad : Nat → Nat} {ba : Nat} {O : Int64} {S : teS} {av : List Value} : FrameBlind (va_Pc av (teU D cy ad ba O S)) := by
  intro a U g mk q
  obtain ⟨q1, qK, ⟨f1, f2, f3, f4, f5⟩, qR⟩ := q
  have hal : U.vm.Alike (U.calling g mk a).vm := Vm.Alike.refl U.vm
  exact ⟨q1, va_K.moved (u := U) (U := U.calling g mk a) hal qK, ⟨vx_Zq.moved (U := U.calling g mk a) hal f1, vx_Zq.moved (U := U.calling g mk a) hal f2, ⟨va_Nw.same rfl (u := U) (U := U.calling g mk a) rfl f3.1, va_Nw.same rfl (u := U) (U := U.calling g mk a) rfl f3.2.1, va_Nw.same rfl (u := U) (U := U.calling g mk a) rfl f3.2.2⟩, fun q hq => (f4 q hq).elim fun sa z => ⟨sa, vk_R.same (u := U) (U := U.calling g mk a) rfl z⟩, f5⟩, qR⟩
section TECALL
variable {p : Program} {l : Launch} {e : Env} {R : Room} {s : State} {m : MethodId} {args : Array Value} {below : List Frame} {meth : Method} {c : Code} {H : Heap} {locs : List Loc} {cells slots : Nat} {Q : State → Prop}
variable {Ts : List Cond} {own : String} {cc : ByteArray} {nL : Nat} {ret : Option FieldType} {D : va_G} {cy : Nat → ClassId} {ad : Nat → Nat} {ba : Nat} {O : Int64} {S S1 : teS} {pc : Nat} {ls : Array Slot} {st rest As : List Value} {id : Nat}
variable {y : MethodName} {bytes : ByteArray} {maxL mc ms n index : Nat} {rt : Option FieldType} {ws : List Cond} {rm : Room} {C : String}
theorem teU_at (X : teC Ts own cc nL ret D cy ba p s m args meth c) (hR : teR D cy ad ba O S H) (hS : va_S (teA ba) s.heap H locs) (av : List Value) : ∀ U : State, U.heap = H → s.WarmedH U.vm → va_Pc av (teU D cy ad ba O S) av.toArray U := by
  obtain ⟨-, -, -, -, -, -, -, hK, hF⟩ := X
  intro U hU hW
  exact ⟨rfl, va_K.moved hW.alike hK, by rw [hU]; exact teF_moved hW (teF_S hF hS), by rw [hU]; exact hR⟩
theorem te_recv (X : teC Ts own cc nL ret D cy ba p s m args meth c) (hR : teR D cy ad ba O S H) (hid : id < 380) {ci : Nat} {fs : List Value} {q : vw_C} (hE : teE cy ad O S id = .inr (ci, fs)) (hc : vwCl[ci]? = some q) : ∃ cell : Cell, H[ad id]? = some cell ∧ cell.vm.isStatics = false ∧ s.vm.findClass q.1 = some cell.cls := by
  obtain ⟨hx, hb, -, -, hown, hts, -, hK, -⟩ := X
  obtain ⟨L, f, q0, hP, hq⟩ := te_cell hR hid
  rw [hE] at hq
  exact va_recv hK hP hc hq
theorem kVi (X : teC Ts own cc nL ret D cy ba p s m args meth c) (hR : teR D cy ad ba O S H) (hS : va_S (teA ba) s.heap H locs) {r : Int32} {S1 : teS} {fs : List Value} {ci : Nat} {T : u_T} {N : Nat} (hM : cI l y ws rm D cy ad ba O S (.ref (ad id) :: As) r S1) (cw : CallW R s args own C index y bytes maxL rt ws rm 0 0 n)
    (hid : id < 380) (hE : teE cy ad O S id = .inr (ci, fs)) (hc : vwCl[ci]? = some (C, T, N)) (hn : As.length = n) (hst : st = As.reverse ++ .ref (ad id) :: rest) (hls : ls.size = nL) (hW : (rest.map fun v => v.category).sum ≤ 8) (hcs : cells ≤ R.cells ∧ slots ≤ R.slots) (hdg : decode cc pc = .ok (.invokevirtual index, 3))
    (kk : ∀ (H1 : Heap) (locs1 : List Loc), teR D cy ad ba O S1 H1 → va_S (teA ba) s.heap H1 locs1 → W p l e R s m args below meth c H1 locs1 cells slots Q (F0 m (pc + 3) ls (.int r :: rest))) : W p l e R s m args below meth c H locs cells slots Q (F0 m pc ls st) := by
  have hrv := te_recv X hR hid hE hc
  have hpre := teU_at X hR hS (.ref (ad id) :: As)
  obtain ⟨hx, hb, hml, -, hown, hts, -, hK, hF⟩ := X
  subst hst
  refine va_calli (va_runV (As := As) (rest := rest) ⟨hx, hb, hml, hown, hts⟩ hM cw ⟨teU_blind, hrv, hpre⟩ rfl hn hls rfl (lv_room hW) hdg hcs) hS (fun q _ h => h) (fun q h => h) (fun r2 u t H1 locs1 ht hvm hw hB hz1 hk1 hS1 => ?_)
  obtain ⟨rfl, rfl⟩ := hw
  exact kk H1 locs1 (by rw [← ht]; exact hB) hS1
theorem kVv (X : teC Ts own cc nL ret D cy ba p s m args meth c) (hR : teR D cy ad ba O S H) (hS : va_S (teA ba) s.heap H locs) {S1 : teS} {fs : List Value} {ci : Nat} {T : u_T} {N : Nat} (hM : cV l y ws rm D cy ad ba O S (.ref (ad id) :: As) S1) (cw : CallW R s args own C index y bytes maxL rt ws rm 0 0 n)
    (hid : id < 380) (hE : teE cy ad O S id = .inr (ci, fs)) (hc : vwCl[ci]? = some (C, T, N)) (hn : As.length = n) (hst : st = As.reverse ++ .ref (ad id) :: rest) (hls : ls.size = nL) (hW : (rest.map fun v => v.category).sum ≤ 8) (hcs : cells ≤ R.cells ∧ slots ≤ R.slots) (hdg : decode cc pc = .ok (.invokevirtual index, 3))
    (kk : ∀ (H1 : Heap) (locs1 : List Loc), teR D cy ad ba O S1 H1 → va_S (teA ba) s.heap H1 locs1 → W p l e R s m args below meth c H1 locs1 cells slots Q (F0 m (pc + 3) ls rest)) : W p l e R s m args below meth c H locs cells slots Q (F0 m pc ls st) := by
  have hrv := te_recv X hR hid hE hc
  have hpre := teU_at X hR hS (.ref (ad id) :: As)
  obtain ⟨hx, hb, hml, -, hown, hts, -, hK, hF⟩ := X
  subst hst
  refine va_callv (va_runV (As := As) (rest := rest) ⟨hx, hb, hml, hown, hts⟩ hM cw ⟨teU_blind, hrv, hpre⟩ rfl hn hls rfl (lv_room hW) hdg hcs) hS (fun q _ h => h) (fun q h => h) (fun u t H1 locs1 ht hvm hw hB hz1 hk1 hS1 => ?_)
  obtain rfl := hw
  exact kk H1 locs1 (by rw [← ht]; exact hB) hS1
theorem kSi (X : teC Ts own cc nL ret D cy ba p s m args meth c) (hR : teR D cy ad ba O S H) (hS : va_S (teA ba) s.heap H locs) {r : Int32} {S1 : teS} (hM : cI l y ws rm D cy ad ba O S As r S1) (cw : CallB R s args own index y bytes maxL rt ws rm 0 0 n ∧ (Cond.static y).before args s = true)
    (hn : As.length = n) (hst : st = As.reverse ++ rest) (hls : ls.size = nL) (hW : (rest.map fun v => v.category).sum ≤ 8) (hcs : cells ≤ R.cells ∧ slots ≤ R.slots) (hdg : decode cc pc = .ok (.invokestatic index, 3))
    (kk : ∀ (H1 : Heap) (locs1 : List Loc), teR D cy ad ba O S1 H1 → va_S (teA ba) s.heap H1 locs1 → W p l e R s m args below meth c H1 locs1 cells slots Q (F0 m (pc + 3) ls (.int r :: rest))) : W p l e R s m args below meth c H locs cells slots Q (F0 m pc ls st) := by
  have hpre := teU_at X hR hS As
  obtain ⟨hx, hb, hml, -, hown, hts, -, hK, hF⟩ := X
  subst hst
  refine va_calli (va_runS (As := As) (rest := rest) ⟨hx, hb, hml, hown, hts⟩ hM cw ⟨teU_blind, hpre⟩ rfl hn hls rfl (lv_room hW) hdg hcs) hS (fun q _ h => h) (fun q h => h) (fun r2 u t H1 locs1 ht hvm hw hB hz1 hk1 hS1 => ?_)
  obtain ⟨rfl, rfl⟩ := hw
  exact kk H1 locs1 (by rw [← ht]; exact hB) hS1
theorem kSl (X : teC Ts own cc nL ret D cy ba p s m args meth c) (hR : teR D cy ad ba O S H) (hS : va_S (teA ba) s.heap H locs) {r : Int64} {S1 : teS} (hM : cJ l y ws rm D cy ad ba O S As r S1) (cw : CallB R s args own index y bytes maxL rt ws rm 0 0 n ∧ (Cond.static y).before args s = true)
    (hn : As.length = n) (hst : st = As.reverse ++ rest) (hls : ls.size = nL) (hW : (rest.map fun v => v.category).sum ≤ 8) (hcs : cells ≤ R.cells ∧ slots ≤ R.slots) (hdg : decode cc pc = .ok (.invokestatic index, 3))
    (kk : ∀ (H1 : Heap) (locs1 : List Loc), teR D cy ad ba O S1 H1 → va_S (teA ba) s.heap H1 locs1 → W p l e R s m args below meth c H1 locs1 cells slots Q (F0 m (pc + 3) ls (.long r :: rest))) : W p l e R s m args below meth c H locs cells slots Q (F0 m pc ls st) := by
  have hpre := teU_at X hR hS As
  obtain ⟨hx, hb, hml, -, hown, hts, -, hK, hF⟩ := X
  subst hst
  refine va_calll (va_runS (As := As) (rest := rest) ⟨hx, hb, hml, hown, hts⟩ hM cw ⟨teU_blind, hpre⟩ rfl hn hls rfl (lv_room hW) hdg hcs) hS (fun q _ h => h) (fun q h => h) (fun r2 u t H1 locs1 ht hvm hw hB hz1 hk1 hS1 => ?_)
  obtain ⟨rfl, rfl⟩ := hw
  exact kk H1 locs1 (by rw [← ht]; exact hB) hS1
theorem kSv (X : teC Ts own cc nL ret D cy ba p s m args meth c) (hR : teR D cy ad ba O S H) (hS : va_S (teA ba) s.heap H locs) {S1 : teS} (hM : cV l y ws rm D cy ad ba O S As S1) (cw : CallB R s args own index y bytes maxL rt ws rm 0 0 n ∧ (Cond.static y).before args s = true)
    (hn : As.length = n) (hst : st = As.reverse ++ rest) (hls : ls.size = nL) (hW : (rest.map fun v => v.category).sum ≤ 8) (hcs : cells ≤ R.cells ∧ slots ≤ R.slots) (hdg : decode cc pc = .ok (.invokestatic index, 3))
    (kk : ∀ (H1 : Heap) (locs1 : List Loc), teR D cy ad ba O S1 H1 → va_S (teA ba) s.heap H1 locs1 → W p l e R s m args below meth c H1 locs1 cells slots Q (F0 m (pc + 3) ls rest)) : W p l e R s m args below meth c H locs cells slots Q (F0 m pc ls st) := by
  have hpre := teU_at X hR hS As
  obtain ⟨hx, hb, hml, -, hown, hts, -, hK, hF⟩ := X
  subst hst
  refine va_callv (va_runS (As := As) (rest := rest) ⟨hx, hb, hml, hown, hts⟩ hM cw ⟨teU_blind, hpre⟩ rfl hn hls rfl (lv_room hW) hdg hcs) hS (fun q _ h => h) (fun q h => h) (fun u t H1 locs1 ht hvm hw hB hz1 hk1 hS1 => ?_)
  obtain rfl := hw
  exact kk H1 locs1 (by rw [← ht]; exact hB) hS1
/-- the ends of a body -/
theorem eI (X : teC Ts own cc nL (some .int) D cy ba p s m args meth c) (hR : teR D cy ad ba O S H) (hS : va_S (teA ba) s.heap H locs) {v r : Int32} {S1 : teS} (h1 : v = r) (h2 : S = S1) (hdg : decode cc pc = .ok (.ireturn, 1)) :
    W p l e R s m args below meth c H locs cells slots (MQ below (va_Qi (fun a (u : teS) => a = r ∧ u = S1) (fun u t => teR D cy ad ba O u t.heap) (teA ba)) args s cells slots (teA ba)) (F0 m pc ls [.int v]) := by
  obtain ⟨hx, hb, hml, hr, hown, hts, hlocks, hK, hF⟩ := X
  exact W.iret hx hb hr (fun t ht hW => ⟨⟨v, S, rfl, ⟨h1, h2⟩, te_hp ht hR⟩, hS.F ht⟩) hS.2.2 hdg
theorem eZ (X : teC Ts own cc nL (some .boolean) D cy ba p s m args meth c) (hR : teR D cy ad ba O S H) (hS : va_S (teA ba) s.heap H locs) {v r : Int32} {S1 : teS} (h0 : v &&& 1 = v) (h1 : v = r) (h2 : S = S1) (hdg : decode cc pc = .ok (.ireturn, 1)) :
    W p l e R s m args below meth c H locs cells slots (MQ below (va_Qi (fun a (u : teS) => a = r ∧ u = S1) (fun u t => teR D cy ad ba O u t.heap) (teA ba)) args s cells slots (teA ba)) (F0 m pc ls [.int v]) := by
  obtain ⟨hx, hb, hml, hr, hown, hts, hlocks, hK, hF⟩ := X
  exact W.zret hx hb hr (by show Value.int (v &&& 1) = _; rw [h0]) (fun t ht hW => ⟨⟨v, S, rfl, ⟨h1, h2⟩, te_hp ht hR⟩, hS.F ht⟩) hS.2.2 hdg
theorem eJ (X : teC Ts own cc nL (some .long) D cy ba p s m args meth c) (hR : teR D cy ad ba O S H) (hS : va_S (teA ba) s.heap H locs) {v r : Int64} {S1 : teS} (h1 : v = r) (h2 : S = S1) (hdg : decode cc pc = .ok (.lreturn, 1)) :
    W p l e R s m args below meth c H locs cells slots (MQ below (va_Ql (fun a (u : teS) => a = r ∧ u = S1) (fun u t => teR D cy ad ba O u t.heap) (teA ba)) args s cells slots (teA ba)) (F0 m pc ls [.long v]) := by
  obtain ⟨hx, hb, hml, hr, hown, hts, hlocks, hK, hF⟩ := X
  exact W.lret hx hb hr (fun t ht hW => ⟨⟨v, S, rfl, ⟨h1, h2⟩, te_hp ht hR⟩, hS.F ht⟩) hS.2.2 hdg
theorem eV (X : teC Ts own cc nL none D cy ba p s m args meth c) (hR : teR D cy ad ba O S H) (hS : va_S (teA ba) s.heap H locs) {S1 : teS} (h2 : S = S1) (hdg : decode cc pc = .ok (.return_, 1)) :
    W p l e R s m args below meth c H locs cells slots (MQ below (va_Qv (fun (u : teS) => u = S1) (fun u t => teR D cy ad ba O u t.heap) (teA ba)) args s cells slots (teA ba)) (F0 m pc ls []) := by
  obtain ⟨hx, hb, hml, hr, hown, hts, hlocks, hK, hF⟩ := X
  exact W.vret hx hb hr (fun t ht hW => ⟨⟨S, rfl, h2, te_hp ht hR⟩, hS.F ht⟩) hS.2.2 hdg
end TECALL
section TEOF
variable {l : Launch} {y : MethodName} {ws ws' : List Cond} {rm : Room} {D : va_G} {cy : Nat → ClassId} {ad : Nat → Nat} {ba : Nat} {O : Int64} {S S1 : teS} {av : List Value} {cc : ByteArray} {maxL : Nat} {ret : Option FieldType}
/-- a body that begins at 0 meets the contract -/
theorem te_of {Qc : Array Value → State → Outcome → State → Prop} {mc ms : Nat} {free : Addr → Prop} (hy : plainName y.cls = true) (hw : ws = Cond.code y cc maxL ret :: ws') (hv : (lg_sl av).length ≤ maxL)
    (body : ∀ (p : Program) (e : Env) (s : State) (m : MethodId) (below : List Frame) (meth : Method) (c : Code) (ls : Array Slot), teC ws y.cls cc maxL ret D cy ba p s m av.toArray meth c → teR D cy ad ba O S s.heap → va_S (teA ba) s.heap s.heap [] → lv_has ls maxL (lv_args 0 av) →
      W p l e (headSpec ws rm).room s m av.toArray below meth c s.heap [] 0 0 (MQ below Qc av.toArray s mc ms free) (F0 m 0 ls [])) : Met l y ws rm (va_Pc av (teU D cy ad ba O S)) Qc mc ms free := by
  refine Met.ofW (cc := cc) (maxL := maxL) (ret := ret) hy hw ?_
  intro p e s m args below meth c s₁ B hml hv2
  obtain ⟨rfl, hK, hF, hR⟩ := hv2
  have X : teC ws y.cls cc maxL ret D cy ba p s m av.toArray meth c := ⟨B.exec, B.bytes, hml, B.returns, findClass_of_methodNamed B.named, atoms_spec (ws := ws) B.pre, B.notSynchronized, hK, hF⟩
  have hl := lv_entry av (n := maxL) hv
  rw [lg_entry_eq]
  exact body p e s m below meth c _ X hR va_S.rf hl
end TEOF
end
section
def tecp (S : teS) (k a k2 a2 : Nat) : teS := fun x y => if x = k ∧ 2 + 10 * a ≤ y ∧ y < 2 + 10 * a + 4 then S k2 (2 + 10 * a2 + (y - (2 + 10 * a))) else S x y
abbrev xP (l : Launch) (y : MethodName) (ws : List Cond) (rm : Room) (mc ms : Nat) (D : va_G) (cy : Nat → ClassId) (ad : Nat → Nat) (ba : Nat) (O : Int64) (S : teS) (av : List Value) (q : Nat ⊕ Unit) : Prop :=
  xV l y ws rm mc ms D cy ad ba O S av (fun u => Sum.inr () = q ∧ u = S) (fun c => Sum.inl c = q)
abbrev xQ (l : Launch) (y : MethodName) (ws : List Cond) (rm : Room) (mc ms : Nat) (D : va_G) (cy : Nat → ClassId) (ad : Nat → Nat) (ba : Nat) (O : Int64) (S : teS) (av : List Value) (q : Nat ⊕ (Int32 × teS)) : Prop :=
  xI l y ws rm mc ms D cy ad ba O S av (fun a u => Sum.inr (a, u) = q) (fun c => Sum.inl c = q)
section TETHR
variable {p : Program} {l : Launch} {e : Env} {R : Room} {s : State} {m : MethodId} {args : Array Value} {below : List Frame} {meth : Method} {c : Code} {H : Heap} {locs : List Loc} {cells slots : Nat} {Q : State → Prop}
variable {Ts : List Cond} {own : String} {cc : ByteArray} {nL : Nat} {ret : Option FieldType} {D : va_G} {cy : Nat → ClassId} {ad : Nat → Nat} {ba : Nat} {O : Int64} {S S0 S1 : teS} {pc : Nat} {ls : Array Slot} {st rest As : List Value} {id : Nat}
variable {y : MethodName} {bytes : ByteArray} {maxL mc ms mc1 ms1 n index : Nat} {rt : Option FieldType} {ws : List Cond} {rm : Room} {C : String} {Qc : Array Value → State → Outcome → State → Prop} {ex : Nat → Prop}
/-- an exception that isn't caught here goes on -/
theorem te_pass (X : teC Ts own cc nL ret D cy ba p s m args meth c) (hN : ∀ x ∈ c.exceptionTable.toList, False) (hR : teR D cy ad ba O S0 H) (hS : va_S (teA ba) s.heap H locs) {c0 : Nat} {E : String} {ce : Cell} {q9 : Addr} (h1 : ex c0) (h2 : E = teN c0) (h3 : H[q9]? = some ce) (h4 : ce.vm = .none) (h5 : s.vm.findClass E = some ce.cls) (hc : cells ≤ mc) (hs : slots ≤ ms) :
    vx_W p l e R s m args below meth c H locs cells slots (vx_MQ below Qc (teXC D cy ad ba O S0 ex) args s mc ms (teA ba)) (F0 m pc ls rest) q9 := by
  obtain ⟨hx, hb, hml, hr, hown, hts, hlocks, hK, hF⟩ := X
  exact vx_out (fun x hx => (hN x hx).elim) hlocks h3 h4 h5 (fun t ht hW => ⟨(), trivial, ⟨⟨c0, h2, h1⟩, te_hp ht hR⟩, hS.F ht⟩) hS.2.2 hc hs
theorem te_thr (X : teC Ts own cc nL ret D cy ba p s m args meth c) (hN : ∀ x ∈ c.exceptionTable.toList, False) (hl0 : l.stackTraces = false) (hR : teR D cy ad ba O S0 H) (hS : va_S (teA ba) s.heap H locs) (hls : ls.size = nL) (hown : own = "TandemExchange") {cls text : String} {ik is ic c0 : Nat} (hcls : Bundle.fit cls = true)
    (hk : Cond.classLink own ik cls ∈ Ts) (hini : Cond.initialized cls ∈ Ts) (htx : (is, text) ∈ teX) (hat : ∀ w ∈ (vx_atS own ic cls ["java/lang/RuntimeException", "java/lang/Exception"]).filter goodWord, w ∈ Ts)
    (hng : ∀ w ∈ (vx_atS own ic cls ["java/lang/RuntimeException", "java/lang/Exception"]).filter (fun w => !goodWord w), w ∈ [Cond.castable cls cls])
    (hgood : ∀ w ∈ Cond.classLink own ik cls :: Cond.initialized cls :: vx_atS own ic cls ["java/lang/RuntimeException", "java/lang/Exception"], vx_ot w = true) (hcast : va_Nw (.castable cls cls) s)
    (d0 : decode cc pc = .ok (.new ik, 3)) (d3 : decode cc (pc + 3) = .ok (.dup, 1)) (d4 : decode cc (pc + 4) = .ok (.ldc is, 2)) (d6 : decode cc (pc + 6) = .ok (.invokespecial ic, 3)) (d9 : decode cc (pc + 9) = .ok (.athrow, 1))
    (hRf : 5 < R.frames) (hRl : (rest.map fun v => v.category).sum + 82 ≤ R.locals) (hRc : cells + 1 ≤ R.cells) (hRs : slots + 6 ≤ R.slots) (hc : cells + 1 ≤ mc) (hs : slots + 6 ≤ ms) (hE : cls = teN c0) (he : ex c0) :
    W p l e R s m args below meth c H locs cells slots (vx_MQ below Qc (teXC D cy ad ba O S0 ex) args s mc ms (teA ba)) (F0 m pc ls rest) := by
  obtain ⟨hx, hb, hml, hr, ho, hts, hlocks, hK, hF⟩ := X
  obtain ⟨sa, hsa⟩ := hF.2.2.2.1 _ htx
  rw [← hown] at hsa
  refine vx_throwS (A := teA ba) hx hb hl0 ho hcls (by decide +kernel) (hts _ hk) (hts _ hini) hsa (vx_hat (fun w hw => hts w (hat w hw)) hng (vx_c (va_Nw.use rfl hcast) vx_n)) hgood hF.1 hF.2.1 hS (hls.trans hml.symm) d0 d3 d4 d6 d9 (fun x hx => (hN x hx).elim) hRf hRl hRc hRs hlocks (fun t ht hz hk1 => ?_) hS.2.2 hc hs
  obtain ⟨L, f, hP, hD, hcs, hi, hz0⟩ := hR
  refine ⟨(), trivial, ⟨⟨c0, hE, he⟩, L, f, fun k q hq => ?_, hD, hcs, hi, Nat.le_trans hz0 hz⟩, ?_⟩
  · exact (hP k q hq).kept (hk1 q.1 (hP k q hq).lt)
  · exact ⟨Nat.le_trans hS.1 hz, fun q h1 h2 => (hk1 q (Nat.lt_of_lt_of_le h1 hS.1)).trans (hS.2.1 q h1 h2)⟩
theorem te_thrW (X : teC Ts own cc nL ret D cy ba p s m args meth c) (hN : ∀ x ∈ c.exceptionTable.toList, False) (hl0 : l.stackTraces = false) (hR : teR D cy ad ba O S0 H) (hS : va_S (teA ba) s.heap H locs) (hls : ls.size = nL) (hown : own = "TandemExchange") {cls text : String} {ik is ic c0 : Nat} (hcls : Bundle.fit cls = true)
    (hk : Cond.classLink own ik cls ∈ Ts) (hini : Cond.initialized cls ∈ Ts) (htx : (is, text) ∈ teX) (hat : ∀ w ∈ (vx_atS own ic cls ["java/lang/RuntimeException", "java/lang/Exception"]).filter goodWord, w ∈ Ts)
    (hng : ∀ w ∈ (vx_atS own ic cls ["java/lang/RuntimeException", "java/lang/Exception"]).filter (fun w => !goodWord w), w ∈ [Cond.castable cls cls])
    (hgood : ∀ w ∈ Cond.classLink own ik cls :: Cond.initialized cls :: vx_atS own ic cls ["java/lang/RuntimeException", "java/lang/Exception"], vx_ot w = true) (hcast : va_Nw (.castable cls cls) s)
    (d0 : decode cc pc = .ok (.new ik, 3)) (d3 : decode cc (pc + 3) = .ok (.dup, 1)) (d4 : decode cc (pc + 4) = .ok (.ldc_w is, 3)) (d7 : decode cc (pc + 7) = .ok (.invokespecial ic, 3)) (d10 : decode cc (pc + 10) = .ok (.athrow, 1))
    (hRf : 5 < R.frames) (hRl : (rest.map fun v => v.category).sum + 82 ≤ R.locals) (hRc : cells + 1 ≤ R.cells) (hRs : slots + 6 ≤ R.slots) (hc : cells + 1 ≤ mc) (hs : slots + 6 ≤ ms) (hE : cls = teN c0) (he : ex c0) :
    W p l e R s m args below meth c H locs cells slots (vx_MQ below Qc (teXC D cy ad ba O S0 ex) args s mc ms (teA ba)) (F0 m pc ls rest) := by
  obtain ⟨hx, hb, hml, hr, ho, hts, hlocks, hK, hF⟩ := X
  obtain ⟨sa, hsa⟩ := hF.2.2.2.1 _ htx
  rw [← hown] at hsa
  refine vx_throwSW (A := teA ba) hx hb hl0 ho hcls (by decide +kernel) (hts _ hk) (hts _ hini) hsa (vx_hat (fun w hw => hts w (hat w hw)) hng (vx_c (va_Nw.use rfl hcast) vx_n)) hgood hF.1 hF.2.1 hS (hls.trans hml.symm) d0 d3 d4 d7 d10 (fun x hx => (hN x hx).elim) hRf hRl hRc hRs hlocks (fun t ht hz hk1 => ?_) hS.2.2 hc hs
  obtain ⟨L, f, hP, hD, hcs, hi, hz0⟩ := hR
  refine ⟨(), trivial, ⟨⟨c0, hE, he⟩, L, f, fun k q hq => ?_, hD, hcs, hi, Nat.le_trans hz0 hz⟩, ?_⟩
  · exact (hP k q hq).kept (hk1 q.1 (hP k q hq).lt)
  · exact ⟨Nat.le_trans hS.1 hz, fun q h1 h2 => (hk1 q (Nat.lt_of_lt_of_le h1 hS.1)).trans (hS.2.1 q h1 h2)⟩
/-- calls of the methods that only refuse: they throw, or nothing is different -/
theorem kSxl (X : teC Ts own cc nL ret D cy ba p s m args meth c) (hN : ∀ x ∈ c.exceptionTable.toList, False) (hR : teR D cy ad ba O S H) (hS : va_S (teA ba) s.heap H locs) {c0 : Nat} (hM : xP l y ws rm mc1 ms1 D cy ad ba O S As (.inl c0)) (cw : CallB R s args own index y bytes maxL rt ws rm mc1 ms1 n ∧ (Cond.static y).before args s = true)
    (hn : As.length = n) (hst : st = As.reverse ++ rest) (hls : ls.size = nL) (hW : (rest.map fun v => v.category).sum ≤ 8) (hcs : cells + mc1 ≤ R.cells ∧ slots + ms1 ≤ R.slots) (hc : cells + mc1 ≤ mc) (hs : slots + ms1 ≤ ms) (hdg : decode cc pc = .ok (.invokestatic index, 3)) (he : ex c0) :
    W p l e R s m args below meth c H locs cells slots (vx_MQ below Qc (teXC D cy ad ba O S ex) args s mc ms (teA ba)) (F0 m pc ls st) := by
  have hpre := teU_at X hR hS As
  have X' := X
  obtain ⟨hx, hb, hml, -, hown, hts, -, hK, hF⟩ := X
  subst hst
  refine vx_callv (vx_runS (As := As) (rest := rest) ⟨hx, hb, hml, hown, hts⟩ hM cw ⟨teU_blind, hpre⟩ rfl hn hls rfl (lv_room hW) hdg hcs) hS (fun q _ h => h) (fun q h => h) (fun q _ h => h) (fun E ce q9 u t H1 locs1 ht hvm _ hB hz1 hk1 hS1 h3 h4 h5 => ?_) (fun u t H1 locs1 ht hvm hw hB hz1 hk1 hS1 => ?_)
  · obtain ⟨⟨c1, h1, h2⟩, hR1⟩ := hB
    cases h2
    exact te_pass X' hN (by rw [← ht]; exact hR1) hS1 he h1 h3 h4 h5 hc hs
  · exact nomatch hw.1
theorem kSxr (X : teC Ts own cc nL ret D cy ba p s m args meth c) (hR : teR D cy ad ba O S H) (hS : va_S (teA ba) s.heap H locs) (hM : xP l y ws rm mc1 ms1 D cy ad ba O S As (.inr ())) (cw : CallB R s args own index y bytes maxL rt ws rm mc1 ms1 n ∧ (Cond.static y).before args s = true)
    (hn : As.length = n) (hst : st = As.reverse ++ rest) (hls : ls.size = nL) (hW : (rest.map fun v => v.category).sum ≤ 8) (hcs : cells + mc1 ≤ R.cells ∧ slots + ms1 ≤ R.slots) (hdg : decode cc pc = .ok (.invokestatic index, 3))
    (kk : ∀ (H1 : Heap) (locs1 : List Loc), teR D cy ad ba O S H1 → va_S (teA ba) s.heap H1 locs1 → W p l e R s m args below meth c H1 locs1 (cells + mc1) (slots + ms1) Q (F0 m (pc + 3) ls rest)) :
    W p l e R s m args below meth c H locs cells slots Q (F0 m pc ls st) := by
  have hpre := teU_at X hR hS As
  obtain ⟨hx, hb, hml, -, hown, hts, -, hK, hF⟩ := X
  subst hst
  refine vx_callv (vx_runS (As := As) (rest := rest) ⟨hx, hb, hml, hown, hts⟩ hM cw ⟨teU_blind, hpre⟩ rfl hn hls rfl (lv_room hW) hdg hcs) hS (fun q _ h => h) (fun q h => h) (fun q _ h => h) (fun E ce q9 u t H1 locs1 ht hvm _ hB hz1 hk1 hS1 h3 h4 h5 => ?_) (fun u t H1 locs1 ht hvm hw hB hz1 hk1 hS1 => ?_)
  · obtain ⟨⟨c1, h1, h2⟩, hR1⟩ := hB
    exact nomatch h2
  · obtain ⟨-, rfl⟩ := hw
    exact kk H1 locs1 (by rw [← ht]; exact hB) hS1
theorem kVxl (X : teC Ts own cc nL ret D cy ba p s m args meth c) (hN : ∀ x ∈ c.exceptionTable.toList, False) (hR : teR D cy ad ba O S H) (hS : va_S (teA ba) s.heap H locs) {c0 : Nat} {fs : List Value} {ci : Nat} {T : u_T} {N : Nat} (hM : xP l y ws rm mc1 ms1 D cy ad ba O S (.ref (ad id) :: As) (.inl c0)) (cw : CallW R s args own C index y bytes maxL rt ws rm mc1 ms1 n)
    (hid : id < 380) (hE : teE cy ad O S id = .inr (ci, fs)) (hc0 : vwCl[ci]? = some (C, T, N)) (hn : As.length = n) (hst : st = As.reverse ++ .ref (ad id) :: rest) (hls : ls.size = nL) (hW : (rest.map fun v => v.category).sum ≤ 8) (hcs : cells + mc1 ≤ R.cells ∧ slots + ms1 ≤ R.slots) (hc : cells + mc1 ≤ mc) (hs : slots + ms1 ≤ ms) (hdg : decode cc pc = .ok (.invokevirtual index, 3)) (he : ex c0) :
    W p l e R s m args below meth c H locs cells slots (vx_MQ below Qc (teXC D cy ad ba O S ex) args s mc ms (teA ba)) (F0 m pc ls st) := by
  have hrv := te_recv X hR hid hE hc0
  have hpre := teU_at X hR hS (.ref (ad id) :: As)
  have X' := X
  obtain ⟨hx, hb, hml, -, hown, hts, -, hK, hF⟩ := X
  subst hst
  refine vx_callv (vx_runV (As := As) (rest := rest) ⟨hx, hb, hml, hown, hts⟩ hM cw ⟨teU_blind, hrv, hpre⟩ rfl hn hls rfl (lv_room hW) hdg hcs) hS (fun q _ h => h) (fun q h => h) (fun q _ h => h) (fun E ce q9 u t H1 locs1 ht hvm _ hB hz1 hk1 hS1 h3 h4 h5 => ?_) (fun u t H1 locs1 ht hvm hw hB hz1 hk1 hS1 => ?_)
  · obtain ⟨⟨c1, h1, h2⟩, hR1⟩ := hB
    cases h2
    exact te_pass X' hN (by rw [← ht]; exact hR1) hS1 he h1 h3 h4 h5 hc hs
  · exact nomatch hw.1
theorem kVxr (X : teC Ts own cc nL ret D cy ba p s m args meth c) (hR : teR D cy ad ba O S H) (hS : va_S (teA ba) s.heap H locs) {fs : List Value} {ci : Nat} {T : u_T} {N : Nat} (hM : xP l y ws rm mc1 ms1 D cy ad ba O S (.ref (ad id) :: As) (.inr ())) (cw : CallW R s args own C index y bytes maxL rt ws rm mc1 ms1 n)
    (hid : id < 380) (hE : teE cy ad O S id = .inr (ci, fs)) (hc0 : vwCl[ci]? = some (C, T, N)) (hn : As.length = n) (hst : st = As.reverse ++ .ref (ad id) :: rest) (hls : ls.size = nL) (hW : (rest.map fun v => v.category).sum ≤ 8) (hcs : cells + mc1 ≤ R.cells ∧ slots + ms1 ≤ R.slots) (hdg : decode cc pc = .ok (.invokevirtual index, 3))
    (kk : ∀ (H1 : Heap) (locs1 : List Loc), teR D cy ad ba O S H1 → va_S (teA ba) s.heap H1 locs1 → W p l e R s m args below meth c H1 locs1 (cells + mc1) (slots + ms1) Q (F0 m (pc + 3) ls rest)) :
    W p l e R s m args below meth c H locs cells slots Q (F0 m pc ls st) := by
  have hrv := te_recv X hR hid hE hc0
  have hpre := teU_at X hR hS (.ref (ad id) :: As)
  obtain ⟨hx, hb, hml, -, hown, hts, -, hK, hF⟩ := X
  subst hst
  refine vx_callv (vx_runV (As := As) (rest := rest) ⟨hx, hb, hml, hown, hts⟩ hM cw ⟨teU_blind, hrv, hpre⟩ rfl hn hls rfl (lv_room hW) hdg hcs) hS (fun q _ h => h) (fun q h => h) (fun q _ h => h) (fun E ce q9 u t H1 locs1 ht hvm _ hB hz1 hk1 hS1 h3 h4 h5 => ?_) (fun u t H1 locs1 ht hvm hw hB hz1 hk1 hS1 => ?_)
  · obtain ⟨⟨c1, h1, h2⟩, hR1⟩ := hB
    exact nomatch h2
  · obtain ⟨-, rfl⟩ := hw
    exact kk H1 locs1 (by rw [← ht]; exact hB) hS1
/-- the ends of a body that may throw -/
theorem eIx (X : teC Ts own cc nL (some .int) D cy ba p s m args meth c) (hR : teR D cy ad ba O S H) (hS : va_S (teA ba) s.heap H locs) {v : Int32} {ok : Int32 → teS → Prop} {XC : String → State → State → Prop} (h1 : ok v S) (hc : cells ≤ mc) (hs : slots ≤ ms) (hdg : decode cc pc = .ok (.ireturn, 1)) :
    W p l e R s m args below meth c H locs cells slots (vx_MQ below (va_Qi ok (fun u t => teR D cy ad ba O u t.heap) (teA ba)) XC args s mc ms (teA ba)) (F0 m pc ls [.int v]) := by
  obtain ⟨hx, hb, hml, hr, hown, hts, hlocks, hK, hF⟩ := X
  exact W.widen hc hs (vx_ret (W.iret hx hb hr (fun t ht hW => ⟨⟨v, S, rfl, h1, te_hp ht hR⟩, hS.F ht⟩) hS.2.2 hdg))
theorem eVx (X : teC Ts own cc nL none D cy ba p s m args meth c) (hR : teR D cy ad ba O S H) (hS : va_S (teA ba) s.heap H locs) {ok : teS → Prop} {XC : String → State → State → Prop} (h1 : ok S) (hc : cells ≤ mc) (hs : slots ≤ ms) (hdg : decode cc pc = .ok (.return_, 1)) :
    W p l e R s m args below meth c H locs cells slots (vx_MQ below (va_Qv ok (fun u t => teR D cy ad ba O u t.heap) (teA ba)) XC args s mc ms (teA ba)) (F0 m pc ls []) := by
  obtain ⟨hx, hb, hml, hr, hown, hts, hlocks, hK, hF⟩ := X
  exact W.widen hc hs (vx_ret (W.vret hx hb hr (fun t ht hW => ⟨⟨S, rfl, h1, te_hp ht hR⟩, hS.F ht⟩) hS.2.2 hdg))
/-- the levels of a member are copied -/
theorem rc_lev (X : teC Ts own cc nL ret D cy ba p s m args meth c) (hR : teR D cy ad ba O S H) (hS : va_S (teA ba) s.heap H locs) {k a k2 a2 : Nat} (hk : k < 18) (ha : a < 9) (hk2 : k2 < 18) (ha2 : a2 < 9) {index : Nat} (w1 : Cond.methodLink own index arraycopyName ∈ Ts) (w2 : Cond.native arraycopyName ∈ Ts) (w3 : Cond.static arraycopyName ∈ Ts) (w4 : Cond.initialized "java/lang/System" ∈ Ts) (hls : ls.size = nL) (hf : 1 ≤ R.frames) (hlo : (rest.map fun v => v.category).sum + (nativeFrameWords "java/lang/System" "arraycopy" 5 + 11) ≤ R.locals) (hdg : decode cc pc = .ok (.invokestatic index, 3))
    (kk : ∀ (H1 : Heap) (locs1 : List Loc), teR D cy ad ba O (tecp S k a k2 a2) H1 → va_S (teA ba) s.heap H1 locs1 → W p l e R s m args below meth c H1 locs1 cells slots Q (F0 m (pc + 3) ls rest)) :
    W p l e R s m args below meth c H locs cells slots Q (F0 m pc ls (.int 4 :: .int 0 :: .ref (ad (20 * k + 11 + a)) :: .int 0 :: .ref (ad (20 * k2 + 11 + a2)) :: rest)) := by
  obtain ⟨hx, hb, hml, -, hown, hts, -, hK, hF⟩ := X
  obtain ⟨L, g, hP, hD, hcs, hi, hz⟩ := hR
  have hid : 20 * k + 11 + a < 380 := by omega
  have hid2 : 20 * k2 + 11 + a2 < 380 := by omega
  obtain ⟨q1, hq1⟩ := va_pl_get (X := []) (f := g) (hcs _ hid).1
  obtain ⟨q0, hq0⟩ := va_pl_get (X := []) (f := g) (hcs _ hid2).1
  rw [(hcs _ hid).2] at hq1
  rw [(hcs _ hid2).2, teE_levs cy ad O S hk2 ha2] at hq0
  have hq2 := hq1
  rw [teE_levs cy ad O S hk ha] at hq2
  refine va_copyi hx hb (hml.trans hls.symm) hown (hts _ w1) (hts _ w2) (hts _ w3) (hts _ w4) hK hP hD hS q0 q1 0 0 hq0 hq2 rfl rfl rfl (by decide) (by decide) (by decide) (by decide) (by decide) (fun i _ => rfl) hf hlo hdg (fun H1 locs1 hP1 hD1 hS1 => ?_)
  refine kk H1 locs1 (te_upd hD hcs hi hid hq1 (Nat.le_trans hF.2.2.2.2 hS1.1) ((teE_levs cy ad O _ hk ha).trans ?_) (fun i h1 h2 => teE_same cy ad O (fun k1 j1 hw => ?_)) hP1 hD1) hS1
  · congr 4
    funext j
    have e0 : (0 : Int32).toNatClampNeg = 0 := rfl
    have e4 : (4 : Int32).toNatClampNeg = 4 := rfl
    dsimp only [va_cpy, tecp]
    rw [e0, e4]
    by_cases h2 : j < 4
    · rw [if_pos h2, if_pos ⟨rfl, by omega, by omega⟩, if_pos ⟨Nat.zero_le _, by omega⟩, if_pos (by omega)]
      congr 1
      omega
    · rw [if_neg h2, if_neg (by omega), if_neg h2]
  · unfold tecp
    rw [if_neg]
    rintro ⟨h3, h4, h5⟩
    unfold teW at hw
    split at hw <;> omega
end TETHR
section TEOFX
variable {l : Launch} {y : MethodName} {ws ws' : List Cond} {rm : Room} {D : va_G} {cy : Nat → ClassId} {ad : Nat → Nat} {ba : Nat} {O : Int64} {S S1 : teS} {av : List Value} {cc : ByteArray} {maxL : Nat} {ret : Option FieldType}
theorem te_ofx {Qc : Array Value → State → Outcome → State → Prop} {XC : String → State → State → Prop} {mc ms : Nat} {free : Addr → Prop} (hy : plainName y.cls = true) (hw : ws = Cond.code y cc maxL ret :: ws') (hv : (lg_sl av).length ≤ maxL)
    (body : ∀ (p : Program) (e : Env) (s : State) (m : MethodId) (below : List Frame) (meth : Method) (c : Code) (ls : Array Slot), teC ws y.cls cc maxL ret D cy ba p s m av.toArray meth c → (∀ x ∈ c.exceptionTable.toList, False) → teR D cy ad ba O S s.heap → va_S (teA ba) s.heap s.heap [] → lv_has ls maxL (lv_args 0 av) →
      W p l e (headSpec ws rm).room s m av.toArray below meth c s.heap [] 0 0 (vx_MQ below Qc XC av.toArray s mc ms free) (F0 m 0 ls [])) : vx_Met l y ws rm (va_Pc av (teU D cy ad ba O S)) Qc XC mc ms free := by
  refine vx_ofW (cc := cc) (maxL := maxL) (ret := ret) hy hw ?_
  intro p e s m args below meth c s₁ B hml hN hv2
  obtain ⟨rfl, hK, hF, hR⟩ := hv2
  have X : teC ws y.cls cc maxL ret D cy ba p s m av.toArray meth c := ⟨B.exec, B.bytes, hml, B.returns, findClass_of_methodNamed B.named, atoms_spec (ws := ws) B.pre, B.notSynchronized, hK, hF⟩
  have hl := lv_entry av (n := maxL) hv
  rw [lg_entry_eq]
  exact body p e s m below meth c _ X hN hR va_S.rf hl
end TEOFX
end
section
def fX1_lead (k0 : Nat) (x1 : Int32) (x2 : Int32) (S : teS) : Option Int32 :=
  chk (tein x1 9) <|
  chk (tein x2 9) <|
  chk (tein (S k0 (2 + 10 * x1.toNatClampNeg + 4)) 4) <|
  some ((S k0 (2 + 10 * x2.toNatClampNeg + (S k0 (2 + 10 * x1.toNatClampNeg + 4)).toNatClampNeg)) - (S k0 (2 + 10 * x1.toNatClampNeg + (S k0 (2 + 10 * x1.toNatClampNeg + 4)).toNatClampNeg)))
def fX1_fit (k0 : Nat) (x1 : Int32) (x2 : Int32) (S : teS) : Option Int32 :=
  bd1 (fX1_lead k0 x1 x2 S) fun r_1 =>
  if r_1 < (2 : Int32) then (
    some (0 : Int32)
  ) else (
    bd1 (fX1_lead k0 x2 x1 S) fun r_4 =>
    if r_4 < (2 : Int32) then (
      some (0 : Int32)
    ) else (
      some (1 : Int32)
    )
  )
def fJ9_floorDiv_7cf53 (x0 : Int32) (x1 : Int32) (S : teS) : Option Int32 :=
  chk (decide (¬ x1 = 0)) <|
  if 0 ≤ (x0 ^^^ x1) then (
    some (x0 / x1)
  ) else (
    if ((x0 / x1) * x1) = x0 then (
      some (x0 / x1)
    ) else (
      some ((x0 / x1) - (1 : Int32))
    )
  )
def fX1_score (k0 : Nat) (x1 : Int32) (x2 : Int32) (S : teS) : Option Int32 :=
  chk (tein x2 9) <|
  bd1 (fX1_lead k0 x1 x2 S) fun r_2 =>
  bd1 (fJ9_floorDiv_7cf53 (S k0 (2 + 10 * x2.toNatClampNeg + 6)) (4 : Int32) S) fun r_4 =>
  some ((((10 : Int32) * r_2) - ((5 : Int32) * (S k0 (2 + 10 * x2.toNatClampNeg + 7)))) + r_4)
def fX1_value (k0 : Nat) (x1 : Int32) (x2 : Int32) (S : teS) : Option Int32 :=
  bd1 (fX1_score k0 x1 x2 S) fun r_1 =>
  bd1 (fX1_score k0 x2 x1 S) fun r_3 =>
  some (r_1 + r_3)
def fJ9_max_7cf53 (x0 : Int32) (x1 : Int32) (S : teS) : Option Int32 :=
  if x0 < x1 then (
    some x1
  ) else (
    some x0
  )
def fX0_rankWith_11 (k1 : Nat) (x2 : Int32) (x3 : Int32) : Nat → teS → Int32 → Int32 → Option Int32
  | 0, _, _, _ => none
  | n + 1, S1, v4, v5 =>
    if x2 ≤ v5 then (
      some v4
    ) else (
      if ((x3 >>> (v5 &&& 31)) &&& (1 : Int32)) = (1 : Int32) then (
        bd1 (fX1_fit k1 v5 x2 S1) fun r_4 =>
        if r_4 = 0 then (
          fX0_rankWith_11 k1 x2 x3 n S1 v4 (v5 + (1 : Int32))
        ) else (
          chk (tein (x3 &&& (((1 : Int32) <<< (v5 &&& 31)) ^^^ (-1 : Int32))) 512) <|
          bd1 (fX1_value k1 v5 x2 S1) fun r_8 =>
          fX0_rankWith_11 k1 x2 x3 n S1 (if v4 < (((S1 368 (x3 &&& (((1 : Int32) <<< (v5 &&& 31)) ^^^ (-1 : Int32))).toNatClampNeg) + (1000000 : Int32)) + r_8) then (((S1 368 (x3 &&& (((1 : Int32) <<< (v5 &&& 31)) ^^^ (-1 : Int32))).toNatClampNeg) + (1000000 : Int32)) + r_8) else v4) (v5 + (1 : Int32))
        )
      ) else (
        fX0_rankWith_11 k1 x2 x3 n S1 v4 (v5 + (1 : Int32))
      )
    )
def fX0_rankWith (k1 : Nat) (x2 : Int32) (x3 : Int32) (S : teS) : Option Int32 :=
  chk (tein x3 512) <|
  fX0_rankWith_11 k1 x2 x3 2000 S (S 368 x3.toNatClampNeg) (0 : Int32)
def fX0_fill_24 (k1 : Nat) (q9 : teS → Int32 → Option teS) : Nat → teS → Int32 → Int32 → Int32 → Option teS
  | 0, _, _, _, _ => none
  | n + 1, S1, v2, v3, v4 =>
    if v3 ≤ v4 then (
      q9 S1 (v2 + (1 : Int32))
    ) else (
      bd1 (fX0_rankWith k1 v2 v4 S1) fun r_4 =>
      chk (tein (v3 ||| v4) 512) <|
      lt1 (teu S1 368 (v3 ||| v4).toNatClampNeg r_4) fun S2 =>
      fX0_fill_24 k1 q9 n S2 v2 v3 (v4 + (1 : Int32))
    )
def fX0_fill_9 (k1 : Nat) : Nat → teS → Int32 → Option teS
  | 0, _, _ => none
  | n + 1, S1, v2 =>
    if (S1 k1 0) ≤ v2 then (
      some S1
    ) else (
      fX0_fill_24 k1 (fX0_fill_9 k1 n) 2000 S1 v2 ((1 : Int32) <<< (v2 &&& 31)) (0 : Int32)
    )
def fX0_fill (k1 : Nat) (S : teS) : Option teS :=
  chk (tein (0 : Int32) 512) <|
  lt1 (teu S 368 (0 : Int32).toNatClampNeg (0 : Int32)) fun S1 =>
  fX0_fill_9 k1 2000 S1 (0 : Int32)
def fX0_rankOfAll (k1 : Nat) (S : teS) : Option Int32 :=
  chk (tein (((1 : Int32) <<< ((S k1 0) &&& 31)) - (1 : Int32)) 512) <|
  some (S 368 (((1 : Int32) <<< ((S k1 0) &&& 31)) - (1 : Int32)).toNatClampNeg)
def fX0_rankWithout (k1 : Nat) (x2 : Int32) (S : teS) : Option Int32 :=
  chk (tein ((((1 : Int32) <<< ((S k1 0) &&& 31)) - (1 : Int32)) &&& (((1 : Int32) <<< (x2 &&& 31)) ^^^ (-1 : Int32))) 512) <|
  some (S 368 ((((1 : Int32) <<< ((S k1 0) &&& 31)) - (1 : Int32)) &&& (((1 : Int32) <<< (x2 &&& 31)) ^^^ (-1 : Int32))).toNatClampNeg)
def fX0_pairsOf (x1 : Int32) (S : teS) : Option Int32 :=
  bd1 (fJ9_floorDiv_7cf53 (x1 + (500000 : Int32)) (1000000 : Int32) S) fun r_1 =>
  some r_1
def fX0_sumOf (x1 : Int32) (S : teS) : Option Int32 :=
  bd1 (fX0_pairsOf x1 S) fun r_1 =>
  some (x1 - (r_1 * (1000000 : Int32)))
def fX3_copyFrom (k0 : Nat) (m0 : Nat) (k1 : Nat) (m1 : Nat) (S : teS) : Option teS :=
  lt1 (tecp S k0 m0 k1 m1) fun S1 =>
  lt1 (teu S1 k0 (2 + 10 * m0 + 4) (S1 k1 (2 + 10 * m1 + 4))) fun S2 =>
  lt1 (teu S2 k0 (2 + 10 * m0 + 5) (S2 k1 (2 + 10 * m1 + 5))) fun S3 =>
  lt1 (teu S3 k0 (2 + 10 * m0 + 6) (S3 k1 (2 + 10 * m1 + 6))) fun S4 =>
  lt1 (teu S4 k0 (2 + 10 * m0 + 7) (S4 k1 (2 + 10 * m1 + 7))) fun S5 =>
  lt1 (teu S5 k0 (2 + 10 * m0 + 8) (S5 k1 (2 + 10 * m1 + 8))) fun S6 =>
  lt1 (teu S6 k0 (2 + 10 * m0 + 9) (S6 k1 (2 + 10 * m1 + 9))) fun S7 =>
  some S7
def fX1_copyFrom_2 (k0 : Nat) (k1 : Nat) : Nat → teS → Int32 → Option teS
  | 0, _, _ => none
  | n + 1, S1, v2 =>
    if (S1 k1 0) ≤ v2 then (
      lt1 (teu S1 k0 0 (S1 k1 0)) fun S2 =>
      lt1 (teu S2 k0 1 (S2 k1 1)) fun S3 =>
      some S3
    ) else (
      chk (tein v2 9) <|
      bd1 (fX3_copyFrom k0 v2.toNatClampNeg k1 v2.toNatClampNeg S1) fun S4 =>
      fX1_copyFrom_2 k0 k1 n S4 (v2 + (1 : Int32))
    )
def fX1_copyFrom (k0 : Nat) (k1 : Nat) (S : teS) : Option teS :=
  fX1_copyFrom_2 k0 k1 2000 S (0 : Int32)
def fX1_has (k0 : Nat) (x1 : Int32) (S : teS) : Option Int32 :=
  if x1 < 0 then (
    some (0 : Int32)
  ) else (
    if (S k0 0) ≤ x1 then (
      some (0 : Int32)
    ) else (
      some (1 : Int32)
    )
  )
def fX1_isFree (k0 : Nat) (x1 : Int32) (S : teS) : Option Int32 :=
  chk (tein x1 9) <|
  if (S k0 (2 + 10 * x1.toNatClampNeg + 8)) = (-9999 : Int32) then (
    some (1 : Int32)
  ) else (
    some (0 : Int32)
  )
def fX1_greaterPartner (k0 : Nat) (x1 : Int32) (S : teS) : Option Int32 :=
  chk (tein x1 9) <|
  bd1 (fX1_has k0 (S k0 (2 + 10 * x1.toNatClampNeg + 8)) S) fun r_2 =>
  if r_2 = 0 then (
    some (-9999 : Int32)
  ) else (
    if (S k0 (2 + 10 * x1.toNatClampNeg + 8)) ≤ x1 then (
      some (-9999 : Int32)
    ) else (
      some (S k0 (2 + 10 * x1.toNatClampNeg + 8))
    )
  )
def fX1_countFittingWith_4 (k0 : Nat) (x1 : Int32) : Nat → teS → Int32 → Int32 → Option Int32
  | 0, _, _, _ => none
  | n + 1, S1, v2, v3 =>
    if (S1 k0 0) ≤ v3 then (
      some v2
    ) else (
      bd1 (fX1_fit k0 x1 v3 S1) fun r_2 =>
      if r_2 = 0 then (
        fX1_countFittingWith_4 k0 x1 n S1 v2 (v3 + (1 : Int32))
      ) else (
        fX1_countFittingWith_4 k0 x1 n S1 (v2 + (1 : Int32)) (v3 + (1 : Int32))
      )
    )
def fX1_countFittingWith (k0 : Nat) (x1 : Int32) (S : teS) : Option Int32 :=
  fX1_countFittingWith_4 k0 x1 2000 S (0 : Int32) (0 : Int32)
def fX1_numberOf_23 (k0 : Nat) (x1 : Int32) (x2 : Int32) (S1 : teS) (n3 : Nat) : Option Int32 :=
  if x2 = (4 : Int32) then (
    some (S1 k0 (2 + 10 * n3 + 4))
  ) else (
  if x2 = (5 : Int32) then (
    some (S1 k0 (2 + 10 * n3 + 5))
  ) else (
  if x2 = (6 : Int32) then (
    some (S1 k0 (2 + 10 * n3 + 6))
  ) else (
  if x2 = (7 : Int32) then (
    some (S1 k0 (2 + 10 * n3 + 7))
  ) else (
  if x2 = (8 : Int32) then (
    some (S1 k0 (2 + 10 * n3 + 8))
  ) else (
  if x2 = (9 : Int32) then (
    bd1 (fX1_isFree k0 x1 S1) fun r_11 =>
    if r_11 = 0 then (
      some (S1 k0 (2 + 10 * n3 + 9))
    ) else (
      some (-9999 : Int32)
    )
  ) else (
  if x2 = (10 : Int32) then (
    bd1 (fX1_countFittingWith k0 x1 S1) fun r_15 =>
    some r_15
  ) else (
    some (-9999 : Int32)
  )))))))
def fX1_numberOf (k0 : Nat) (x1 : Int32) (x2 : Int32) (S : teS) : Option Int32 :=
  chk (tein x1 9) <|
  if x2 < 0 then (
    fX1_numberOf_23 k0 x1 x2 S x1.toNatClampNeg
  ) else (
    if (4 : Int32) ≤ x2 then (
      fX1_numberOf_23 k0 x1 x2 S x1.toNatClampNeg
    ) else (
      chk (tein x2 4) <|
      some (S k0 (2 + 10 * x1.toNatClampNeg + x2.toNatClampNeg))
    )
  )
def fX1_prefers (k0 : Nat) (x1 : Int32) (x2 : Int32) (S : teS) : Option Int32 :=
  chk (tein x1 9) <|
  bd1 (fX1_has k0 (S k0 (2 + 10 * x1.toNatClampNeg + 8)) S) fun r_2 =>
  if r_2 = 0 then (
    some (1 : Int32)
  ) else (
    bd1 (fX1_score k0 x1 (S k0 (2 + 10 * x1.toNatClampNeg + 8)) S) fun r_5 =>
    bd1 (fX1_score k0 x1 x2 S) fun r_7 =>
    if r_7 ≤ r_5 then (
      some (0 : Int32)
    ) else (
      some (1 : Int32)
    )
  )
def fX1_block (k0 : Nat) (x1 : Int32) (x2 : Int32) (S : teS) : Option Int32 :=
  chk (tein x1 9) <|
  if (S k0 (2 + 10 * x1.toNatClampNeg + 8)) = x2 then (
    some (0 : Int32)
  ) else (
    bd1 (fX1_fit k0 x1 x2 S) fun r_3 =>
    if r_3 = 0 then (
      some (0 : Int32)
    ) else (
      bd1 (fX1_prefers k0 x1 x2 S) fun r_6 =>
      if r_6 = 0 then (
        some (0 : Int32)
      ) else (
        bd1 (fX1_prefers k0 x2 x1 S) fun r_9 =>
        if r_9 = 0 then (
          some (0 : Int32)
        ) else (
          some (1 : Int32)
        )
      )
    )
  )
def fX1_canBecomePartners (k0 : Nat) (x1 : Int32) (x2 : Int32) (S : teS) : Option Int32 :=
  bd1 (fX1_isFree k0 x1 S) fun r_1 =>
  if r_1 = 0 then (
    some (0 : Int32)
  ) else (
    bd1 (fX1_isFree k0 x2 S) fun r_4 =>
    if r_4 = 0 then (
      some (0 : Int32)
    ) else (
      bd1 (fX1_fit k0 x1 x2 S) fun r_7 =>
      if r_7 = 0 then (
        some (0 : Int32)
      ) else (
        some (1 : Int32)
      )
    )
  )
def fX1_countPairs_4 (k0 : Nat) : Nat → teS → Int32 → Int32 → Option Int32
  | 0, _, _, _ => none
  | n + 1, S1, v1, v2 =>
    if (S1 k0 0) ≤ v2 then (
      some v1
    ) else (
      bd1 (fX1_greaterPartner k0 v2 S1) fun r_2 =>
      if r_2 = (-9999 : Int32) then (
        fX1_countPairs_4 k0 n S1 v1 (v2 + (1 : Int32))
      ) else (
        fX1_countPairs_4 k0 n S1 (v1 + (1 : Int32)) (v2 + (1 : Int32))
      )
    )
def fX1_countPairs (k0 : Nat) (S : teS) : Option Int32 :=
  fX1_countPairs_4 k0 2000 S (0 : Int32) (0 : Int32)
def fX1_sumOfValues_4 (k0 : Nat) : Nat → teS → Int32 → Int32 → Option Int32
  | 0, _, _, _ => none
  | n + 1, S1, v1, v2 =>
    if (S1 k0 0) ≤ v2 then (
      some v1
    ) else (
      bd1 (fX1_greaterPartner k0 v2 S1) fun r_2 =>
      if r_2 = (-9999 : Int32) then (
        fX1_sumOfValues_4 k0 n S1 v1 (v2 + (1 : Int32))
      ) else (
        bd1 (fX1_value k0 v2 r_2 S1) fun r_5 =>
        fX1_sumOfValues_4 k0 n S1 (v1 + r_5) (v2 + (1 : Int32))
      )
    )
def fX1_sumOfValues (k0 : Nat) (S : teS) : Option Int32 :=
  fX1_sumOfValues_4 k0 2000 S (0 : Int32) (0 : Int32)
def fX1_sumOfCredits_4 (k0 : Nat) : Nat → teS → Int32 → Int32 → Option Int32
  | 0, _, _, _ => none
  | n + 1, S1, v1, v2 =>
    if (S1 k0 0) ≤ v2 then (
      some v1
    ) else (
      chk (tein v2 9) <|
      fX1_sumOfCredits_4 k0 n S1 (v1 + (S1 k0 (2 + 10 * v2.toNatClampNeg + 6))) (v2 + (1 : Int32))
    )
def fX1_sumOfCredits (k0 : Nat) (S : teS) : Option Int32 :=
  fX1_sumOfCredits_4 k0 2000 S (0 : Int32) (0 : Int32)
def fX1_countBlocking_16 (k0 : Nat) (q4 : teS → Int32 → Int32 → Option Int32) : Nat → teS → Int32 → Int32 → Int32 → Option Int32
  | 0, _, _, _, _ => none
  | n + 1, S1, v1, v2, v3 =>
    if (S1 k0 0) ≤ v3 then (
      q4 S1 v1 (v2 + (1 : Int32))
    ) else (
      bd1 (fX1_block k0 v2 v3 S1) fun r_3 =>
      if r_3 = 0 then (
        fX1_countBlocking_16 k0 q4 n S1 v1 v2 (v3 + (1 : Int32))
      ) else (
        fX1_countBlocking_16 k0 q4 n S1 (v1 + (1 : Int32)) v2 (v3 + (1 : Int32))
      )
    )
def fX1_countBlocking_4 (k0 : Nat) : Nat → teS → Int32 → Int32 → Option Int32
  | 0, _, _, _ => none
  | n + 1, S1, v1, v2 =>
    if (S1 k0 0) ≤ v2 then (
      some v1
    ) else (
      fX1_countBlocking_16 k0 (fX1_countBlocking_4 k0 n) 2000 S1 v1 v2 (v2 + (1 : Int32))
    )
def fX1_countBlocking (k0 : Nat) (S : teS) : Option Int32 :=
  fX1_countBlocking_4 k0 2000 S (0 : Int32) (0 : Int32)
def fX1_countFitting_4 (k0 : Nat) : Nat → teS → Int32 → Int32 → Option Int32
  | 0, _, _, _ => none
  | n + 1, S1, v1, v2 =>
    if (S1 k0 0) ≤ v2 then (
      some (v1 / (2 : Int32))
    ) else (
      bd1 (fX1_countFittingWith k0 v2 S1) fun r_2 =>
      fX1_countFitting_4 k0 n S1 (v1 + r_2) (v2 + (1 : Int32))
    )
def fX1_countFitting (k0 : Nat) (S : teS) : Option Int32 :=
  fX1_countFitting_4 k0 2000 S (0 : Int32) (0 : Int32)
def fX3_start_6 (k0 : Nat) (m0 : Nat) (x1 : Int32) (x2 : Int32) (x3 : Int32) : Nat → teS → Int32 → Int32 → Option teS
  | 0, _, _, _ => none
  | n + 1, S1, v4, v5 =>
    if v5 < 0 then (
      lt1 (teu S1 k0 (2 + 10 * m0 + 4) x1) fun S2 =>
      lt1 (teu S2 k0 (2 + 10 * m0 + 5) (0 : Int32)) fun S3 =>
      lt1 (teu S3 k0 (2 + 10 * m0 + 6) x3) fun S4 =>
      lt1 (teu S4 k0 (2 + 10 * m0 + 7) (0 : Int32)) fun S5 =>
      lt1 (teu S5 k0 (2 + 10 * m0 + 8) (-9999 : Int32)) fun S6 =>
      lt1 (teu S6 k0 (2 + 10 * m0 + 9) (0 : Int32)) fun S7 =>
      some S7
    ) else (
      chk (tein v5 4) <|
      lt1 (teu S1 k0 (2 + 10 * m0 + v5.toNatClampNeg) (v4 - v4 / (10 : Int32) * (10 : Int32))) fun S8 =>
      fX3_start_6 k0 m0 x1 x2 x3 n S8 (v4 / (10 : Int32)) (v5 + (-1 : Int32))
    )
def fX3_start (k0 : Nat) (m0 : Nat) (x1 : Int32) (x2 : Int32) (x3 : Int32) (S : teS) : Option teS :=
  fX3_start_6 k0 m0 x1 x2 x3 2000 S x2 (3 : Int32)
def fX1_add (k0 : Nat) (x1 : Int32) (x2 : Int32) (x3 : Int32) (S : teS) : Option teS :=
  if (9 : Int32) ≤ (S k0 0) then (
    some S
  ) else (
    chk (tein (S k0 0) 9) <|
    bd1 (fX3_start k0 ((S k0 0).toNatClampNeg) x1 x2 x3 S) fun S1 =>
    lt1 (teu S1 k0 0 ((S1 k0 0) + (1 : Int32))) fun S2 =>
    some S2
  )
def fX1_separate (k0 : Nat) (x1 : Int32) (S : teS) : Option teS :=
  chk (tein x1 9) <|
  bd1 (fX1_has k0 (S k0 (2 + 10 * x1.toNatClampNeg + 8)) S) fun r_2 =>
  if r_2 = 0 then (
    some S
  ) else (
    lt1 (teu S k0 (2 + 10 * x1.toNatClampNeg + 8) (-9999 : Int32)) fun S1 =>
    chk (tein (S k0 (2 + 10 * x1.toNatClampNeg + 8)) 9) <|
    lt1 (teu S1 k0 (2 + 10 * (S k0 (2 + 10 * x1.toNatClampNeg + 8)).toNatClampNeg + 8) (-9999 : Int32)) fun S2 =>
    some S2
  )
def fX1_remove_50 (k0 : Nat) (x1 : Int32) : Nat → teS → Int32 → Option teS
  | 0, _, _ => none
  | n + 1, S1, v2 =>
    if (S1 k0 0) ≤ v2 then (
      some S1
    ) else (
      chk (tein v2 9) <|
      if (S1 k0 (2 + 10 * v2.toNatClampNeg + 8)) ≤ x1 then (
        fX1_remove_50 k0 x1 n S1 (v2 + (1 : Int32))
      ) else (
        lt1 (teu S1 k0 (2 + 10 * v2.toNatClampNeg + 8) ((S1 k0 (2 + 10 * v2.toNatClampNeg + 8)) - (1 : Int32))) fun S2 =>
        fX1_remove_50 k0 x1 n S2 (v2 + (1 : Int32))
      )
    )
def fX1_remove_17 (k0 : Nat) (x1 : Int32) : Nat → teS → Int32 → Option teS
  | 0, _, _ => none
  | n + 1, S1, v2 =>
    if (S1 k0 0) ≤ v2 then (
      fX1_remove_50 k0 x1 2000 S1 (0 : Int32)
    ) else (
      chk (tein v2 9) <|
      chk (tein (v2 + (1 : Int32)) 9) <|
      bd1 (fX3_copyFrom k0 v2.toNatClampNeg k0 ((v2 + (1 : Int32)).toNatClampNeg) S1) fun S2 =>
      fX1_remove_17 k0 x1 n S2 (v2 + (1 : Int32))
    )
def fX1_remove (k0 : Nat) (x1 : Int32) (S : teS) : Option teS :=
  bd1 (fX1_separate k0 x1 S) fun S1 =>
  lt1 (teu S1 k0 0 ((S1 k0 0) - (1 : Int32))) fun S2 =>
  fX1_remove_17 k0 x1 2000 S2 x1
def fX1_separateIfUnfit (k0 : Nat) (x1 : Int32) (S : teS) : Option teS :=
  chk (tein x1 9) <|
  bd1 (fX1_has k0 (S k0 (2 + 10 * x1.toNatClampNeg + 8)) S) fun r_2 =>
  if r_2 = 0 then (
    some S
  ) else (
    bd1 (fX1_fit k0 x1 (S k0 (2 + 10 * x1.toNatClampNeg + 8)) S) fun r_5 =>
    if r_5 = 0 then (
      bd1 (fX1_separate k0 x1 S) fun S1 =>
      some S1
    ) else (
      some S
    )
  )
def fX1_changeWish (k0 : Nat) (x1 : Int32) (x2 : Int32) (S : teS) : Option teS :=
  chk (tein x1 9) <|
  lt1 (teu S k0 (2 + 10 * x1.toNatClampNeg + 4) x2) fun S1 =>
  lt1 (teu S1 k0 (2 + 10 * x1.toNatClampNeg + 5) (0 : Int32)) fun S2 =>
  bd1 (fX1_separateIfUnfit k0 x1 S2) fun S3 =>
  some S3
def fX1_grade (k0 : Nat) (x1 : Int32) (x2 : Int32) (x3 : Int32) (S : teS) : Option teS :=
  chk (tein x1 9) <|
  chk (tein x2 4) <|
  lt1 (teu S k0 (2 + 10 * x1.toNatClampNeg + x2.toNatClampNeg) (x3 / (10 : Int32))) fun S1 =>
  if (S1 k0 (2 + 10 * x1.toNatClampNeg + 4)) = x2 then (
    lt1 (teu S1 k0 (2 + 10 * x1.toNatClampNeg + 5) ((x3 - x3 / (10 : Int32) * (10 : Int32)) * (2 : Int32))) fun S3 =>
    bd1 (fX1_separateIfUnfit k0 x1 S3) fun S4 =>
    some S4
  ) else (
    bd1 (fX1_separateIfUnfit k0 x1 S1) fun S2 =>
    some S2
  )
def fX1_unite (k0 : Nat) (x1 : Int32) (x2 : Int32) (S : teS) : Option teS :=
  chk (tein x1 9) <|
  lt1 (teu S k0 (2 + 10 * x1.toNatClampNeg + 8) x2) fun S1 =>
  chk (tein x2 9) <|
  lt1 (teu S1 k0 (2 + 10 * x2.toNatClampNeg + 8) x1) fun S2 =>
  lt1 (teu S2 k0 (2 + 10 * x1.toNatClampNeg + 9) (0 : Int32)) fun S3 =>
  lt1 (teu S3 k0 (2 + 10 * x2.toNatClampNeg + 9) (0 : Int32)) fun S4 =>
  some S4
def fX1_uniteBestFreePair_67 (k0 : Nat) (q13 : teS → Int32 → Int32 → Int32 → Int32 → Option (Int32 × teS)) (q28 : teS → Int32 → Int32 → Int32 → Int32 → Int32 → Option (Int32 × teS)) (S1 : teS) (v4 : Int32) (v5 : Int32) : Option (Int32 × teS) :=
  bd1 (fX1_value k0 v4 v5 S1) fun r_18 =>
  q28 S1 v4 v5 r_18 v4 (v5 + (1 : Int32))
def fX1_uniteBestFreePair_28 (k0 : Nat) (q13 : teS → Int32 → Int32 → Int32 → Int32 → Option (Int32 × teS)) : Nat → teS → Int32 → Int32 → Int32 → Int32 → Int32 → Option (Int32 × teS)
  | 0, _, _, _, _, _, _ => none
  | n + 1, S1, v1, v2, v3, v4, v5 =>
    if (S1 k0 0) ≤ v5 then (
      q13 S1 v1 v2 v3 (v4 + (1 : Int32))
    ) else (
      bd1 (fX1_canBecomePartners k0 v4 v5 S1) fun r_11 =>
      if r_11 = 0 then (
        fX1_uniteBestFreePair_28 k0 q13 n S1 v1 v2 v3 v4 (v5 + (1 : Int32))
      ) else (
        if v1 = (-9999 : Int32) then (
          fX1_uniteBestFreePair_67 k0 q13 (fX1_uniteBestFreePair_28 k0 q13 n) S1 v4 v5
        ) else (
          bd1 (fX1_value k0 v4 v5 S1) fun r_15 =>
          if r_15 ≤ v3 then (
            fX1_uniteBestFreePair_28 k0 q13 n S1 v1 v2 v3 v4 (v5 + (1 : Int32))
          ) else (
            fX1_uniteBestFreePair_67 k0 q13 (fX1_uniteBestFreePair_28 k0 q13 n) S1 v4 v5
          )
        )
      )
    )
def fX1_uniteBestFreePair_13 (k0 : Nat) : Nat → teS → Int32 → Int32 → Int32 → Int32 → Option (Int32 × teS)
  | 0, _, _, _, _, _ => none
  | n + 1, S1, v1, v2, v3, v4 =>
    if (S1 k0 0) ≤ v4 then (
      bd1 (fX1_has k0 v1 S1) fun r_2 =>
      if r_2 = 0 then (
        some ((0 : Int32), S1)
      ) else (
        bd1 (fX1_has k0 v2 S1) fun r_5 =>
        if r_5 = 0 then (
          some ((0 : Int32), S1)
        ) else (
          bd1 (fX1_unite k0 v1 v2 S1) fun S2 =>
          some ((1 : Int32), S2)
        )
      )
    ) else (
      fX1_uniteBestFreePair_28 k0 (fX1_uniteBestFreePair_13 k0 n) 2000 S1 v1 v2 v3 v4 (v4 + (1 : Int32))
    )
def fX1_uniteBestFreePair (k0 : Nat) (S : teS) : Option (Int32 × teS) :=
  fX1_uniteBestFreePair_13 k0 2000 S (-9999 : Int32) (-9999 : Int32) (0 : Int32) (0 : Int32)
def fX1_matchFree_2 (k0 : Nat) : Nat → teS → Int32 → Option (Int32 × teS)
  | 0, _, _ => none
  | n + 1, S1, v1 =>
    if (4 : Int32) ≤ v1 then (
      some (v1, S1)
    ) else (
      bd2 (fX1_uniteBestFreePair k0 S1) fun r_2 S2 =>
      if r_2 = 0 then (
        some (v1, S2)
      ) else (
        fX1_matchFree_2 k0 n S2 (v1 + (1 : Int32))
      )
    )
def fX1_matchFree (k0 : Nat) (S : teS) : Option (Int32 × teS) :=
  fX1_matchFree_2 k0 2000 S (0 : Int32)
def fX1_uniteFirstBlockingPair_14 (k0 : Nat) (q2 : teS → Int32 → Option (Int32 × teS)) : Nat → teS → Int32 → Int32 → Option (Int32 × teS)
  | 0, _, _, _ => none
  | n + 1, S1, v1, v2 =>
    if (S1 k0 0) ≤ v2 then (
      q2 S1 (v1 + (1 : Int32))
    ) else (
      bd1 (fX1_block k0 v1 v2 S1) fun r_3 =>
      if r_3 = 0 then (
        fX1_uniteFirstBlockingPair_14 k0 q2 n S1 v1 (v2 + (1 : Int32))
      ) else (
        bd1 (fX1_separate k0 v1 S1) fun S2 =>
        bd1 (fX1_separate k0 v2 S2) fun S3 =>
        bd1 (fX1_unite k0 v1 v2 S3) fun S4 =>
        some ((1 : Int32), S4)
      )
    )
def fX1_uniteFirstBlockingPair_2 (k0 : Nat) : Nat → teS → Int32 → Option (Int32 × teS)
  | 0, _, _ => none
  | n + 1, S1, v1 =>
    if (S1 k0 0) ≤ v1 then (
      some ((0 : Int32), S1)
    ) else (
      fX1_uniteFirstBlockingPair_14 k0 (fX1_uniteFirstBlockingPair_2 k0 n) 2000 S1 v1 (v1 + (1 : Int32))
    )
def fX1_uniteFirstBlockingPair (k0 : Nat) (S : teS) : Option (Int32 × teS) :=
  fX1_uniteFirstBlockingPair_2 k0 2000 S (0 : Int32)
def fX1_settleBy_2 (k0 : Nat) (x1 : Int32) : Nat → teS → Int32 → Option (Int32 × teS)
  | 0, _, _ => none
  | n + 1, S1, v2 =>
    if x1 ≤ v2 then (
      some (v2, S1)
    ) else (
      bd2 (fX1_uniteFirstBlockingPair k0 S1) fun r_2 S2 =>
      if r_2 = 0 then (
        some (v2, S2)
      ) else (
        fX1_settleBy_2 k0 x1 n S2 (v2 + (1 : Int32))
      )
    )
def fX1_settleBy (k0 : Nat) (x1 : Int32) (S : teS) : Option (Int32 × teS) :=
  fX1_settleBy_2 k0 x1 2000 S (0 : Int32)
def fJ9_min_7cf53 (x0 : Int32) (x1 : Int32) (S : teS) : Option Int32 :=
  if x1 < x0 then (
    some x1
  ) else (
    some x0
  )
def fX3_gainCredits (k0 : Nat) (m0 : Nat) (x1 : Int32) (S : teS) : Option teS :=
  lt1 (teu S k0 (2 + 10 * m0 + 6) (if (-99 : Int32) < (if ((S k0 (2 + 10 * m0 + 6)) + x1) < (99 : Int32) then ((S k0 (2 + 10 * m0 + 6)) + x1) else (99 : Int32)) then (if ((S k0 (2 + 10 * m0 + 6)) + x1) < (99 : Int32) then ((S k0 (2 + 10 * m0 + 6)) + x1) else (99 : Int32)) else (-99 : Int32))) fun S1 =>
  some S1
def fX3_failToMeet (k0 : Nat) (m0 : Nat) (x1 : Int32) (S : teS) : Option teS :=
  lt1 (teu S k0 (2 + 10 * m0 + 9) ((S k0 (2 + 10 * m0 + 9)) + (1 : Int32))) fun S1 =>
  if x1 = 0 then (
    bd1 (fX3_gainCredits k0 m0 (2 : Int32) S1) fun S2 =>
    some S2
  ) else (
    lt1 (teu S1 k0 (2 + 10 * m0 + 7) ((S1 k0 (2 + 10 * m0 + 7)) + (1 : Int32))) fun S3 =>
    bd1 (fX3_gainCredits k0 m0 (-3 : Int32) S3) fun S4 =>
    some S4
  )
def fX1_pointsOfMeeting (k0 : Nat) (x1 : Int32) (x2 : Int32) (S : teS) : Option Int32 :=
  bd1 (fX1_lead k0 x1 x2 S) fun r_1 =>
  some (if (1 : Int32) < ((4 : Int32) + r_1) then ((4 : Int32) + r_1) else (1 : Int32))
def fX3_learn_57 (k0 : Nat) (m0 : Nat) (x1 : Int32) (S1 : teS) : Option teS :=
  chk (tein (S1 k0 (2 + 10 * m0 + 4)) 4) <|
  if (S1 k0 (2 + 10 * m0 + (S1 k0 (2 + 10 * m0 + 4)).toNatClampNeg)) = (9 : Int32) then (
    lt1 (teu S1 k0 (2 + 10 * m0 + 5) (0 : Int32)) fun S2 =>
    some S2
  ) else (
    some S1
  )
def fX3_learn (k0 : Nat) (m0 : Nat) (x1 : Int32) (S : teS) : Option teS :=
  lt1 (teu S k0 (2 + 10 * m0 + 5) ((S k0 (2 + 10 * m0 + 5)) + x1)) fun S1 =>
  if (S1 k0 (2 + 10 * m0 + 5)) < (20 : Int32) then (
    fX3_learn_57 k0 m0 x1 S1
  ) else (
    chk (tein (S1 k0 (2 + 10 * m0 + 4)) 4) <|
    if (9 : Int32) ≤ (S1 k0 (2 + 10 * m0 + (S1 k0 (2 + 10 * m0 + 4)).toNatClampNeg)) then (
      fX3_learn_57 k0 m0 x1 S1
    ) else (
      lt1 (teu S1 k0 (2 + 10 * m0 + (S1 k0 (2 + 10 * m0 + 4)).toNatClampNeg) ((S1 k0 (2 + 10 * m0 + (S1 k0 (2 + 10 * m0 + 4)).toNatClampNeg)) + (1 : Int32))) fun S2 =>
      lt1 (teu S2 k0 (2 + 10 * m0 + 5) ((S2 k0 (2 + 10 * m0 + 5)) - (20 : Int32))) fun S3 =>
      fX3_learn_57 k0 m0 x1 S3
    )
  )
def fX3_meet (k0 : Nat) (m0 : Nat) (x1 : Int32) (S : teS) : Option teS :=
  lt1 (teu S k0 (2 + 10 * m0 + 9) (0 : Int32)) fun S1 =>
  bd1 (fX3_gainCredits k0 m0 (1 : Int32) S1) fun S2 =>
  bd1 (fX3_learn k0 m0 x1 S2) fun S3 =>
  some S3
def fX1_passWeekOfPair_42 (k0 : Nat) (x1 : Int32) (x2 : Int32) (x3 : Int32) (S1 : teS) (v4 : Int32) (v5 : Int32) : Option teS :=
  chk (tein x1 9) <|
  bd1 (fX3_failToMeet k0 x1.toNatClampNeg v4 S1) fun S2 =>
  chk (tein x2 9) <|
  bd1 (fX3_failToMeet k0 x2.toNatClampNeg v5 S2) fun S3 =>
  some S3
def fX1_passWeekOfPair_30 (k0 : Nat) (x1 : Int32) (x2 : Int32) (x3 : Int32) (S1 : teS) (v4 : Int32) (y0 : Int32) : Option teS :=
  if v4 = 0 then (
    if y0 = 0 then (
      bd1 (fX1_pointsOfMeeting k0 x1 x2 S1) fun r_5 =>
      bd1 (fX1_pointsOfMeeting k0 x2 x1 S1) fun r_7 =>
      chk (tein x1 9) <|
      bd1 (fX3_meet k0 x1.toNatClampNeg r_5 S1) fun S2 =>
      chk (tein x2 9) <|
      bd1 (fX3_meet k0 x2.toNatClampNeg r_7 S2) fun S3 =>
      some S3
    ) else (
      fX1_passWeekOfPair_42 k0 x1 x2 x3 S1 v4 y0
    )
  ) else (
    fX1_passWeekOfPair_42 k0 x1 x2 x3 S1 v4 y0
  )
def fX1_passWeekOfPair_14 (k0 : Nat) (x1 : Int32) (x2 : Int32) (x3 : Int32) (S1 : teS) (y0 : Int32) : Option teS :=
  if ((x3 >>> (x2 &&& 31)) &&& (1 : Int32)) = (1 : Int32) then (
    fX1_passWeekOfPair_30 k0 x1 x2 x3 S1 y0 (1 : Int32)
  ) else (
    fX1_passWeekOfPair_30 k0 x1 x2 x3 S1 y0 (0 : Int32)
  )
def fX1_passWeekOfPair (k0 : Nat) (x1 : Int32) (x2 : Int32) (x3 : Int32) (S : teS) : Option teS :=
  if ((x3 >>> (x1 &&& 31)) &&& (1 : Int32)) = (1 : Int32) then (
    fX1_passWeekOfPair_14 k0 x1 x2 x3 S (1 : Int32)
  ) else (
    fX1_passWeekOfPair_14 k0 x1 x2 x3 S (0 : Int32)
  )
def fX1_passWeek_38 (k0 : Nat) (x1 : Int32) : Nat → teS → Int32 → Option teS
  | 0, _, _ => none
  | n + 1, S1, v2 =>
    if (S1 k0 0) ≤ v2 then (
      lt1 (teu S1 k0 1 ((S1 k0 1) + (1 : Int32))) fun S2 =>
      some S2
    ) else (
      bd1 (fX1_greaterPartner k0 v2 S1) fun r_8 =>
      if r_8 = (-9999 : Int32) then (
        fX1_passWeek_38 k0 x1 n S1 (v2 + (1 : Int32))
      ) else (
        bd1 (fX1_fit k0 v2 r_8 S1) fun r_11 =>
        if r_11 = 0 then (
          bd1 (fX1_separate k0 v2 S1) fun S3 =>
          fX1_passWeek_38 k0 x1 n S3 (v2 + (1 : Int32))
        ) else (
          chk (tein v2 9) <|
          if (S1 k0 (2 + 10 * v2.toNatClampNeg + 9)) < (3 : Int32) then (
            fX1_passWeek_38 k0 x1 n S1 (v2 + (1 : Int32))
          ) else (
            bd1 (fX1_separate k0 v2 S1) fun S4 =>
            fX1_passWeek_38 k0 x1 n S4 (v2 + (1 : Int32))
          )
        )
      )
    )
def fX1_passWeek_2 (k0 : Nat) (x1 : Int32) : Nat → teS → Int32 → Option teS
  | 0, _, _ => none
  | n + 1, S1, v2 =>
    if (S1 k0 0) ≤ v2 then (
      fX1_passWeek_38 k0 x1 2000 S1 (0 : Int32)
    ) else (
      bd1 (fX1_greaterPartner k0 v2 S1) fun r_2 =>
      if r_2 = (-9999 : Int32) then (
        fX1_passWeek_2 k0 x1 n S1 (v2 + (1 : Int32))
      ) else (
        bd1 (fX1_passWeekOfPair k0 v2 r_2 x1 S1) fun S2 =>
        fX1_passWeek_2 k0 x1 n S2 (v2 + (1 : Int32))
      )
    )
def fX1_passWeek (k0 : Nat) (x1 : Int32) (S : teS) : Option teS :=
  fX1_passWeek_2 k0 x1 2000 S (0 : Int32)
def fX2_remember_32 (k1 : Nat) (S1 : teS) : Option teS :=
  chk (tein (((S1 363 0) + (S1 363 1)) - ((S1 363 0) + (S1 363 1)) / (14 : Int32) * (14 : Int32)) 14) <|
  bd1 (fX1_copyFrom (2 + (((S1 363 0) + (S1 363 1)) - ((S1 363 0) + (S1 363 1)) / (14 : Int32) * (14 : Int32)).toNatClampNeg) k1 S1) fun S2 =>
  lt1 (teu S2 363 1 ((S2 363 1) + (1 : Int32))) fun S3 =>
  some S3
def fX2_remember (k1 : Nat) (S : teS) : Option teS :=
  if (S 363 1) < (14 : Int32) then (
    fX2_remember_32 k1 S
  ) else (
    lt1 (teu S 363 0 (((S 363 0) + (1 : Int32)) - ((S 363 0) + (1 : Int32)) / (14 : Int32) * (14 : Int32))) fun S1 =>
    lt1 (teu S1 363 1 ((S1 363 1) - (1 : Int32))) fun S2 =>
    fX2_remember_32 k1 S2
  )
def fX2_takeBack (k1 : Nat) (S : teS) : Option teS :=
  if (S 363 1) ≤ 0 then (
    some S
  ) else (
    lt1 (teu S 363 1 ((S 363 1) - (1 : Int32))) fun S1 =>
    chk (tein (((S1 363 0) + (S1 363 1)) - ((S1 363 0) + (S1 363 1)) / (14 : Int32) * (14 : Int32)) 14) <|
    bd1 (fX1_copyFrom k1 (2 + (((S1 363 0) + (S1 363 1)) - ((S1 363 0) + (S1 363 1)) / (14 : Int32) * (14 : Int32)).toNatClampNeg) S1) fun S2 =>
    some S2
  )
def fX2_forget (S : teS) : Option teS :=
  lt1 (teu S 363 1 (0 : Int32)) fun S1 =>
  some S1
def fX3_wantedLevel (k0 : Nat) (m0 : Nat) (S : teS) : Option Int32 :=
  chk (tein (S k0 (2 + 10 * m0 + 4)) 4) <|
  some (S k0 (2 + 10 * m0 + (S k0 (2 + 10 * m0 + 4)).toNatClampNeg))
def fX4_add (x1 : Int32) (S : teS) : Option teS :=
  if (90 : Int32) ≤ (S 361 0) then (
    some S
  ) else (
    chk (tein (S 361 0) 90) <|
    lt1 (teu S 362 (S 361 0).toNatClampNeg (vp_nar .char x1)) fun S1 =>
    lt1 (teu S1 361 0 ((S1 361 0) + (1 : Int32))) fun S2 =>
    some S2
  )
def fX4_allows_59 (x1 : Int32) (x2 : Int32) (S1 : teS) (y0 : Int32) : Option Int32 :=
  if x2 < (48 : Int32) then (
    some (0 : Int32)
  ) else (
    if y0 < x2 then (
      some (0 : Int32)
    ) else (
      some (1 : Int32)
    )
  )
def fX4_allows (x1 : Int32) (x2 : Int32) (S : teS) : Option Int32 :=
  if x1 = 0 then (
    if x2 = (76 : Int32) then (
      some (1 : Int32)
    ) else (
      some (0 : Int32)
    )
  ) else (
    if x1 ≤ (72 : Int32) then (
      if ((x1 - (1 : Int32)) - (x1 - (1 : Int32)) / (8 : Int32) * (8 : Int32)) = 0 then (
        if x2 = (109 : Int32) then (
          some (1 : Int32)
        ) else (
          some (0 : Int32)
        )
      ) else (
        if ((x1 - (1 : Int32)) - (x1 - (1 : Int32)) / (8 : Int32) * (8 : Int32)) = (1 : Int32) then (
          fX4_allows_59 x1 x2 S (51 : Int32)
        ) else (
          fX4_allows_59 x1 x2 S (57 : Int32)
        )
      )
    ) else (
      some (0 : Int32)
    )
  )
def fX4_isWhole (S : teS) : Option Int32 :=
  if (S 361 0) ≤ 0 then (
    some (0 : Int32)
  ) else (
    if (((S 361 0) - (1 : Int32)) - ((S 361 0) - (1 : Int32)) / (8 : Int32) * (8 : Int32)) = 0 then (
      some (1 : Int32)
    ) else (
      some (0 : Int32)
    )
  )
def fX4_firstError_2 : Nat → teS → Int32 → Option Int32
  | 0, _, _ => none
  | n + 1, S1, v1 =>
    if (S1 361 0) ≤ v1 then (
      bd1 (fX4_isWhole S1) fun r_2 =>
      if r_2 = 0 then (
        some (S1 361 0)
      ) else (
        some (-9999 : Int32)
      )
    ) else (
      chk (tein v1 90) <|
      bd1 (fX4_allows v1 (S1 362 v1.toNatClampNeg) S1) fun r_6 =>
      if r_6 = 0 then (
        some v1
      ) else (
        fX4_firstError_2 n S1 (v1 + (1 : Int32))
      )
    )
def fX4_firstError (S : teS) : Option Int32 :=
  fX4_firstError_2 2000 S (0 : Int32)
def fX4_number_5 (x1 : Int32) (x2 : Int32) : Nat → teS → Int32 → Int32 → Option Int32
  | 0, _, _, _ => none
  | n + 1, S1, v3, v4 =>
    if (x1 + x2) ≤ v4 then (
      some v3
    ) else (
      if (S1 361 0) ≤ v4 then (
        some v3
      ) else (
        chk (tein v4 90) <|
        fX4_number_5 x1 x2 n S1 ((((10 : Int32) * v3) + (S1 362 v4.toNatClampNeg)) - (48 : Int32)) (v4 + (1 : Int32))
      )
    )
def fX4_number (x1 : Int32) (x2 : Int32) (S : teS) : Option Int32 :=
  fX4_number_5 x1 x2 2000 S (0 : Int32) x1
def fX4_readInto_12 (k1 : Nat) : Nat → teS → Int32 → Option teS
  | 0, _, _ => none
  | n + 1, S1, v2 =>
    if (S1 361 0) < (v2 + (8 : Int32)) then (
      some S1
    ) else (
      bd1 (fX4_number (v2 + (1 : Int32)) (1 : Int32) S1) fun r_2 =>
      bd1 (fX4_number (v2 + (2 : Int32)) (4 : Int32) S1) fun r_4 =>
      bd1 (fX4_number (v2 + (6 : Int32)) (2 : Int32) S1) fun r_6 =>
      bd1 (fX1_add k1 r_2 r_4 r_6 S1) fun S2 =>
      fX4_readInto_12 k1 n S2 (v2 + (8 : Int32))
    )
def fX4_readInto (k1 : Nat) (S : teS) : Option teS :=
  lt1 (teu S k1 0 (0 : Int32)) fun S1 =>
  lt1 (teu S1 k1 1 (0 : Int32)) fun S2 =>
  fX4_readInto_12 k1 2000 S2 (1 : Int32)
def fX5_requireRange (x0 : Int32) (x1 : Int32) (x2 : Int32) (S : teS) : Option (Nat ⊕ Unit) :=
  if x0 < x1 then (
    some (.inl 1)
  ) else (
    if x0 ≤ x2 then (
      some (.inr ())
    ) else (
      some (.inl 1)
    )
  )
def fX5_append (x1 : Int32) (S : teS) : Option (Nat ⊕ (Int32 × teS)) :=
  bx1 (fX5_requireRange x1 (0 : Int32) (255 : Int32) S) fun _ =>
  if (S 361 0) < (90 : Int32) then (
    bd1 (fX4_add (((x1).toUInt32 % 65536).toInt32) S) fun S1 =>
    some (.inr ((S1 361 0), S1))
  ) else (
    some (.inl 2)
  )
def fX5_clearText (S : teS) : Option (Int32 × teS) :=
  lt1 (teu S 361 0 (0 : Int32)) fun S1 =>
  some ((S 361 0), S1)
def fX5_errorPosition (S : teS) : Option Int32 :=
  bd1 (fX4_firstError S) fun r_1 =>
  some r_1
def fX5_load_43 : Nat → teS → Int32 → Option (Nat ⊕ (Int32 × teS))
  | 0, _, _ => none
  | n + 1, S1, v1 =>
    if (2 : Int32) ≤ v1 then (
      some (.inr ((S1 0 0), S1))
    ) else (
      chk (tein v1 2) <|
      lt1 (teu S1 366 v1.toNatClampNeg (vp_nar .boolean (0 : Int32))) fun S2 =>
      fX5_load_43 n S2 (v1 + (1 : Int32))
    )
def fX5_load (S : teS) : Option (Nat ⊕ (Int32 × teS)) :=
  bd1 (fX4_firstError S) fun r_1 =>
  if r_1 = (-9999 : Int32) then (
    bd1 (fX4_readInto 0 S) fun S1 =>
    bd1 (fX2_forget S1) fun S2 =>
    fX5_load_43 2000 S2 (0 : Int32)
  ) else (
    some (.inl 2)
  )
def fX5_about (x1 : Int32) (S : teS) : Option (Nat ⊕ (Int32 × teS)) :=
  if x1 = (0 : Int32) then (
    some (.inr ((S 0 0), S))
  ) else (
  if x1 = (1 : Int32) then (
    bd1 (fX1_countPairs 0 S) fun r_3 =>
    some (.inr (r_3, S))
  ) else (
  if x1 = (2 : Int32) then (
    some (.inr ((S 0 1), S))
  ) else (
  if x1 = (3 : Int32) then (
    bd1 (fX1_sumOfValues 0 S) fun r_7 =>
    some (.inr (r_7, S))
  ) else (
  if x1 = (4 : Int32) then (
    bd1 (fX1_countBlocking 0 S) fun r_10 =>
    some (.inr (r_10, S))
  ) else (
  if x1 = (5 : Int32) then (
    bd1 (fX1_sumOfCredits 0 S) fun r_13 =>
    some (.inr (r_13, S))
  ) else (
  if x1 = (6 : Int32) then (
    bd1 (fX1_countFitting 0 S) fun r_16 =>
    some (.inr (r_16, S))
  ) else (
    some (.inl 1)
  )))))))
def fX5_requireMember (x1 : Int32) (S : teS) : Option (Nat ⊕ Unit) :=
  bd1 (fX1_has 0 x1 S) fun r_1 =>
  if r_1 = 0 then (
    some (.inl 3)
  ) else (
    some (.inr ())
  )
def fX5_member (x1 : Int32) (x2 : Int32) (S : teS) : Option (Nat ⊕ (Int32 × teS)) :=
  bx1 (fX5_requireMember x1 S) fun _ =>
  bx1 (fX5_requireRange x2 (0 : Int32) (10 : Int32) S) fun _ =>
  bd1 (fX1_numberOf 0 x1 x2 S) fun r_5 =>
  some (.inr (r_5, S))
def fX5_requireTwoMembers (x1 : Int32) (x2 : Int32) (S : teS) : Option (Nat ⊕ Unit) :=
  bx1 (fX5_requireMember x1 S) fun _ =>
  bx1 (fX5_requireMember x2 S) fun _ =>
  if x1 = x2 then (
    some (.inl 1)
  ) else (
    some (.inr ())
  )
def fX5_both (x1 : Int32) (x2 : Int32) (x3 : Int32) (S : teS) : Option (Nat ⊕ (Int32 × teS)) :=
  bx1 (fX5_requireTwoMembers x1 x2 S) fun _ =>
  if x3 = (0 : Int32) then (
    bd1 (fX1_score 0 x1 x2 S) fun r_4 =>
    some (.inr (r_4, S))
  ) else (
  if x3 = (1 : Int32) then (
    bd1 (fX1_value 0 x1 x2 S) fun r_7 =>
    some (.inr (r_7, S))
  ) else (
  if x3 = (2 : Int32) then (
    bd1 (fX1_fit 0 x1 x2 S) fun r_10 =>
    if r_10 = 0 then (
      some (.inr ((0 : Int32), S))
    ) else (
      some (.inr ((1 : Int32), S))
    )
  ) else (
  if x3 = (3 : Int32) then (
    bd1 (fX1_block 0 x1 x2 S) fun r_14 =>
    if r_14 = 0 then (
      some (.inr ((0 : Int32), S))
    ) else (
      some (.inr ((1 : Int32), S))
    )
  ) else (
    some (.inl 1)
  ))))
def fX5_requireLanguage (x0 : Int32) (S : teS) : Option (Nat ⊕ Unit) :=
  bx1 (fX5_requireRange x0 (0 : Int32) (3 : Int32) S) fun _ =>
  some (.inr ())
def fX5_join (x1 : Int32) (x2 : Int32) (x3 : Int32) (S : teS) : Option (Nat ⊕ (Int32 × teS)) :=
  bx1 (fX5_requireLanguage x1 S) fun _ =>
  bx1 (fX5_requireRange x2 (0 : Int32) (9999 : Int32) S) fun _ =>
  bx1 (fX5_requireRange x3 (-99 : Int32) (99 : Int32) S) fun _ =>
  if (S 0 0) < (9 : Int32) then (
    bd1 (fX2_remember 0 S) fun S1 =>
    bd1 (fX1_add 0 x1 x2 x3 S1) fun S2 =>
    some (.inr (((S2 0 0) - (1 : Int32)), S2))
  ) else (
    some (.inl 2)
  )
def fX5_leave (x1 : Int32) (S : teS) : Option (Nat ⊕ (Int32 × teS)) :=
  bx1 (fX5_requireMember x1 S) fun _ =>
  bd1 (fX2_remember 0 S) fun S1 =>
  chk (tein x1 9) <|
  bd1 (fX1_remove 0 x1 S1) fun S2 =>
  some (.inr ((S1 0 (2 + 10 * x1.toNatClampNeg + 6)), S2))
def fX5_want (x1 : Int32) (x2 : Int32) (S : teS) : Option (Nat ⊕ (Int32 × teS)) :=
  bx1 (fX5_requireMember x1 S) fun _ =>
  bx1 (fX5_requireLanguage x2 S) fun _ =>
  bd1 (fX2_remember 0 S) fun S1 =>
  chk (tein x1 9) <|
  bd1 (fX1_changeWish 0 x1 x2 S1) fun S2 =>
  some (.inr ((S1 0 (2 + 10 * x1.toNatClampNeg + 4)), S2))
def fX5_test (x1 : Int32) (x2 : Int32) (x3 : Int32) (S : teS) : Option (Nat ⊕ (Int32 × teS)) :=
  bx1 (fX5_requireMember x1 S) fun _ =>
  bx1 (fX5_requireLanguage x2 S) fun _ =>
  bx1 (fX5_requireRange x3 (0 : Int32) (99 : Int32) S) fun _ =>
  bd1 (fX2_remember 0 S) fun S1 =>
  chk (tein x1 9) <|
  chk (tein x2 4) <|
  bd1 (fX1_grade 0 x1 x2 x3 S1) fun S2 =>
  some (.inr ((S1 0 (2 + 10 * x1.toNatClampNeg + x2.toNatClampNeg)), S2))
def fX5_pair (x1 : Int32) (x2 : Int32) (S : teS) : Option (Nat ⊕ (Int32 × teS)) :=
  bx1 (fX5_requireTwoMembers x1 x2 S) fun _ =>
  bd1 (fX1_canBecomePartners 0 x1 x2 S) fun r_3 =>
  if r_3 = 0 then (
    some (.inl 2)
  ) else (
    bd1 (fX2_remember 0 S) fun S1 =>
    bd1 (fX1_unite 0 x1 x2 S1) fun S2 =>
    bd1 (fX1_value 0 x1 x2 S2) fun r_10 =>
    some (.inr (r_10, S2))
  )
def fX5_requirePartner (x1 : Int32) (S : teS) : Option (Nat ⊕ Unit) :=
  bd1 (fX1_isFree 0 x1 S) fun r_1 =>
  if r_1 = 0 then (
    some (.inr ())
  ) else (
    some (.inl 2)
  )
def fX5_part (x1 : Int32) (S : teS) : Option (Nat ⊕ (Int32 × teS)) :=
  bx1 (fX5_requireMember x1 S) fun _ =>
  bx1 (fX5_requirePartner x1 S) fun _ =>
  bd1 (fX2_remember 0 S) fun S1 =>
  chk (tein x1 9) <|
  bd1 (fX1_separate 0 x1 S1) fun S2 =>
  some (.inr ((S1 0 (2 + 10 * x1.toNatClampNeg + 8)), S2))
def fX5_match (S : teS) : Option (Int32 × teS) :=
  bd1 (fX2_remember 0 S) fun S1 =>
  bd2 (fX1_matchFree 0 S1) fun r_3 S2 =>
  some (r_3, S2)
def fX5_settle (x1 : Int32) (S : teS) : Option (Nat ⊕ (Int32 × teS)) :=
  bx1 (fX5_requireRange x1 (1 : Int32) (50 : Int32) S) fun _ =>
  bd1 (fX2_remember 0 S) fun S1 =>
  bd2 (fX1_settleBy 0 x1 S1) fun r_5 S2 =>
  some (.inr (r_5, S2))
def fX5_week (x1 : Int32) (S : teS) : Option (Nat ⊕ (Int32 × teS)) :=
  bx1 (fX5_requireRange x1 (0 : Int32) (511 : Int32) S) fun _ =>
  bd1 (fX2_remember 0 S) fun S1 =>
  bd1 (fX1_passWeek 0 x1 S1) fun S2 =>
  bd1 (fX1_countPairs 0 S2) fun r_7 =>
  some (.inr (r_7, S2))
def fX5_undo (S : teS) : Option (Nat ⊕ (Int32 × teS)) :=
  if (S 363 1) = 0 then (
    some (.inl 2)
  ) else (
    bd1 (fX2_takeBack 0 S) fun S1 =>
    some (.inr ((S1 363 1), S1))
  )
def fX5_blocking_37 (x1 : Int32) (x2 : Int32) (q19 : teS → Int32 → Int32 → Option (Nat ⊕ (Int32 × teS))) : Nat → teS → Int32 → Int32 → Int32 → Option (Nat ⊕ (Int32 × teS))
  | 0, _, _, _, _ => none
  | n + 1, S1, v3, v4, v5 =>
    if (S1 0 0) ≤ v5 then (
      q19 S1 v3 (v4 + (1 : Int32))
    ) else (
      bd1 (fX1_block 0 v4 v5 S1) fun r_4 =>
      if r_4 = 0 then (
        fX5_blocking_37 x1 x2 q19 n S1 v3 v4 (v5 + (1 : Int32))
      ) else (
        if v3 = 0 then (
          if x2 = 0 then (
            some (.inr (v4, S1))
          ) else (
            some (.inr (v5, S1))
          )
        ) else (
          fX5_blocking_37 x1 x2 q19 n S1 (v3 + (-1 : Int32)) v4 (v5 + (1 : Int32))
        )
      )
    )
def fX5_blocking_19 (x1 : Int32) (x2 : Int32) : Nat → teS → Int32 → Int32 → Option (Nat ⊕ (Int32 × teS))
  | 0, _, _, _ => none
  | n + 1, S1, v3, v4 =>
    if (S1 0 0) ≤ v4 then (
      some (.inr ((-9999 : Int32), S1))
    ) else (
      fX5_blocking_37 x1 x2 (fX5_blocking_19 x1 x2 n) 2000 S1 v3 v4 (v4 + (1 : Int32))
    )
def fX5_blocking (x1 : Int32) (x2 : Int32) (S : teS) : Option (Nat ⊕ (Int32 × teS)) :=
  if 0 ≤ x1 then (
    fX5_blocking_19 x1 x2 2000 S x1 (0 : Int32)
  ) else (
    some (.inl 1)
  )
def fX5_bestPartner_56 (x1 : Int32) (x2 : Int32) (q15 : teS → Int32 → Int32 → Int32 → Option (Nat ⊕ (Int32 × teS))) (S1 : teS) (v3 : Int32) (v4 : Int32) (v5 : Int32) : Option (Nat ⊕ (Int32 × teS)) :=
  bd1 (fX1_score 0 x1 v5 S1) fun r_11 =>
  if v3 = (-9999 : Int32) then (
    q15 S1 v5 r_11 (v5 + (1 : Int32))
  ) else (
    if r_11 ≤ v4 then (
      q15 S1 v3 v4 (v5 + (1 : Int32))
    ) else (
      q15 S1 v5 r_11 (v5 + (1 : Int32))
    )
  )
def fX5_bestPartner_15 (x1 : Int32) (x2 : Int32) : Nat → teS → Int32 → Int32 → Int32 → Option (Nat ⊕ (Int32 × teS))
  | 0, _, _, _, _ => none
  | n + 1, S1, v3, v4, v5 =>
    if (S1 0 0) ≤ v5 then (
      some (.inr (v3, S1))
    ) else (
      bd1 (fX1_fit 0 x1 v5 S1) fun r_4 =>
      if r_4 = 0 then (
        fX5_bestPartner_15 x1 x2 n S1 v3 v4 (v5 + (1 : Int32))
      ) else (
        if x2 = 0 then (
          fX5_bestPartner_56 x1 x2 (fX5_bestPartner_15 x1 x2 n) S1 v3 v4 v5
        ) else (
          bd1 (fX1_isFree 0 v5 S1) fun r_8 =>
          if r_8 = 0 then (
            fX5_bestPartner_15 x1 x2 n S1 v3 v4 (v5 + (1 : Int32))
          ) else (
            fX5_bestPartner_56 x1 x2 (fX5_bestPartner_15 x1 x2 n) S1 v3 v4 v5
          )
        )
      )
    )
def fX5_bestPartner (x1 : Int32) (x2 : Int32) (S : teS) : Option (Nat ⊕ (Int32 × teS)) :=
  bx1 (fX5_requireMember x1 S) fun _ =>
  fX5_bestPartner_15 x1 x2 2000 S (-9999 : Int32) (0 : Int32) (0 : Int32)
def fX5_best (x1 : Int32) (S : teS) : Option (Nat ⊕ (Int32 × teS)) :=
  bx1 (fX5_requireRange x1 (0 : Int32) (1 : Int32) S) fun _ =>
  bd1 (fX0_fill 0 S) fun S1 =>
  bd1 (fX0_rankOfAll 0 S1) fun r_5 =>
  if x1 = 0 then (
    bd1 (fX0_pairsOf r_5 S1) fun r_10 =>
    some (.inr (r_10, S1))
  ) else (
    bd1 (fX0_sumOf r_5 S1) fun r_8 =>
    some (.inr (r_8, S1))
  )
def fX5_missedMost_19 : Nat → teS → Int32 → Int32 → Int32 → Option (Int32 × teS)
  | 0, _, _, _, _ => none
  | n + 1, S1, v1, v2, v3 =>
    if (S1 0 0) ≤ v3 then (
      some (v1, S1)
    ) else (
      bd1 (fX0_rankWithout 0 v3 S1) fun r_4 =>
      if v1 = (-9999 : Int32) then (
        fX5_missedMost_19 n S1 v3 r_4 (v3 + (1 : Int32))
      ) else (
        if v2 ≤ r_4 then (
          fX5_missedMost_19 n S1 v1 v2 (v3 + (1 : Int32))
        ) else (
          fX5_missedMost_19 n S1 v3 r_4 (v3 + (1 : Int32))
        )
      )
    )
def fX5_missedMost (S : teS) : Option (Int32 × teS) :=
  bd1 (fX0_fill 0 S) fun S1 =>
  fX5_missedMost_19 2000 S1 (-9999 : Int32) (0 : Int32) (0 : Int32)
def fX5_ahead_42 (x1 : Int32) (x2 : Int32) (x3 : Int32) (x4 : Int32) : Nat → teS → Int32 → Option (Nat ⊕ (Int32 × teS))
  | 0, _, _ => none
  | n + 1, S1, v5 =>
    if x2 ≤ v5 then (
      bd1 (fX1_numberOf 1 x1 x4 S1) fun r_12 =>
      some (.inr (r_12, S1))
    ) else (
      bd1 (fX1_passWeek 1 x3 S1) fun S2 =>
      fX5_ahead_42 x1 x2 x3 x4 n S2 (v5 + (1 : Int32))
    )
def fX5_ahead (x1 : Int32) (x2 : Int32) (x3 : Int32) (x4 : Int32) (S : teS) : Option (Nat ⊕ (Int32 × teS)) :=
  bx1 (fX5_requireMember x1 S) fun _ =>
  bx1 (fX5_requireRange x2 (0 : Int32) (60 : Int32) S) fun _ =>
  bx1 (fX5_requireRange x3 (0 : Int32) (511 : Int32) S) fun _ =>
  bx1 (fX5_requireRange x4 (0 : Int32) (10 : Int32) S) fun _ =>
  bd1 (fX1_copyFrom 1 0 S) fun S1 =>
  fX5_ahead_42 x1 x2 x3 x4 2000 S1 (0 : Int32)
def fX5_levelAfter_25 (x1 : Int32) (x2 : Int32) : Nat → teS → Int32 → Option (Nat ⊕ (Int32 × teS))
  | 0, _, _ => none
  | n + 1, S1, v3 =>
    if (100 : Int32) < v3 then (
      some (.inr ((-9999 : Int32), S1))
    ) else (
      chk (tein x1 9) <|
      bd1 (fX3_wantedLevel 1 x1.toNatClampNeg S1) fun r_9 =>
      if r_9 < x2 then (
        bd2 (fX1_matchFree 1 S1) fun r_12 S2 =>
        bd1 (fX1_passWeek 1 (0 : Int32) S2) fun S3 =>
        fX5_levelAfter_25 x1 x2 n S3 (v3 + (1 : Int32))
      ) else (
        some (.inr (v3, S1))
      )
    )
def fX5_levelAfter (x1 : Int32) (x2 : Int32) (S : teS) : Option (Nat ⊕ (Int32 × teS)) :=
  bx1 (fX5_requireMember x1 S) fun _ =>
  bx1 (fX5_requireRange x2 (0 : Int32) (9 : Int32) S) fun _ =>
  bd1 (fX1_copyFrom 1 0 S) fun S1 =>
  fX5_levelAfter_25 x1 x2 2000 S1 (0 : Int32)
def fX5_partsAfter_31 (x1 : Int32) (x2 : Int32) : Nat → teS → Int32 → Option (Nat ⊕ (Int32 × teS))
  | 0, _, _ => none
  | n + 1, S1, v3 =>
    if (100 : Int32) < v3 then (
      some (.inr ((-9999 : Int32), S1))
    ) else (
      bd1 (fX1_passWeek 1 x2 S1) fun S2 =>
      bd1 (fX1_isFree 1 x1 S2) fun r_12 =>
      if r_12 = 0 then (
        fX5_partsAfter_31 x1 x2 n S2 (v3 + (1 : Int32))
      ) else (
        some (.inr (v3, S2))
      )
    )
def fX5_partsAfter (x1 : Int32) (x2 : Int32) (S : teS) : Option (Nat ⊕ (Int32 × teS)) :=
  bx1 (fX5_requireMember x1 S) fun _ =>
  bx1 (fX5_requireRange x2 (0 : Int32) (511 : Int32) S) fun _ =>
  bx1 (fX5_requirePartner x1 S) fun _ =>
  bd1 (fX1_copyFrom 1 0 S) fun S1 =>
  fX5_partsAfter_31 x1 x2 2000 S1 (1 : Int32)
def fX5_withoutLowestGroups_5 (x0 : Int64) (x2 : Int32) : Nat → teS → Int64 → Int32 → Option Int64
  | 0, _, _, _ => none
  | n + 1, S1, v3, v5 =>
    if x2 ≤ v5 then (
      some v3
    ) else (
      fX5_withoutLowestGroups_5 x0 x2 n S1 (v3 / (10000 : Int64)) (v5 + (1 : Int32))
    )
def fX5_withoutLowestGroups (x0 : Int64) (x2 : Int32) (S : teS) : Option Int64 :=
  fX5_withoutLowestGroups_5 x0 x2 2000 S x0 (0 : Int32)
def fX5_commandSucceeds (x1 : Int32) (S : teS) : Option (Int32 × teS) :=
  if (x1 / (1000 : Int32)) = (1 : Int32) then (
    if (x1 - x1 / (10 : Int32) * (10 : Int32)) = 0 then (
      bd1 (fX1_has 1 ((x1 / (100 : Int32)) - (x1 / (100 : Int32)) / (10 : Int32) * (10 : Int32)) S) fun r_3 =>
      if r_3 = 0 then (
        some ((0 : Int32), S)
      ) else (
        bd1 (fX1_has 1 ((x1 / (10 : Int32)) - (x1 / (10 : Int32)) / (10 : Int32) * (10 : Int32)) S) fun r_6 =>
        if r_6 = 0 then (
          some ((0 : Int32), S)
        ) else (
          if ((x1 / (100 : Int32)) - (x1 / (100 : Int32)) / (10 : Int32) * (10 : Int32)) = ((x1 / (10 : Int32)) - (x1 / (10 : Int32)) / (10 : Int32) * (10 : Int32)) then (
            some ((0 : Int32), S)
          ) else (
            bd1 (fX1_canBecomePartners 1 ((x1 / (100 : Int32)) - (x1 / (100 : Int32)) / (10 : Int32) * (10 : Int32)) ((x1 / (10 : Int32)) - (x1 / (10 : Int32)) / (10 : Int32) * (10 : Int32)) S) fun r_10 =>
            if r_10 = 0 then (
              some ((0 : Int32), S)
            ) else (
              bd1 (fX1_unite 1 ((x1 / (100 : Int32)) - (x1 / (100 : Int32)) / (10 : Int32) * (10 : Int32)) ((x1 / (10 : Int32)) - (x1 / (10 : Int32)) / (10 : Int32) * (10 : Int32)) S) fun S1 =>
              some ((1 : Int32), S1)
            )
          )
        )
      )
    ) else (
      some ((0 : Int32), S)
    )
  ) else (
  if (x1 / (1000 : Int32)) = (2 : Int32) then (
    if ((x1 / (10 : Int32)) - (x1 / (10 : Int32)) / (10 : Int32) * (10 : Int32)) = 0 then (
      if (x1 - x1 / (10 : Int32) * (10 : Int32)) = 0 then (
        bd1 (fX1_has 1 ((x1 / (100 : Int32)) - (x1 / (100 : Int32)) / (10 : Int32) * (10 : Int32)) S) fun r_18 =>
        if r_18 = 0 then (
          some ((0 : Int32), S)
        ) else (
          bd1 (fX1_isFree 1 ((x1 / (100 : Int32)) - (x1 / (100 : Int32)) / (10 : Int32) * (10 : Int32)) S) fun r_21 =>
          if r_21 = 0 then (
            bd1 (fX1_separate 1 ((x1 / (100 : Int32)) - (x1 / (100 : Int32)) / (10 : Int32) * (10 : Int32)) S) fun S2 =>
            some ((1 : Int32), S2)
          ) else (
            some ((0 : Int32), S)
          )
        )
      ) else (
        some ((0 : Int32), S)
      )
    ) else (
      some ((0 : Int32), S)
    )
  ) else (
  if (x1 / (1000 : Int32)) = (3 : Int32) then (
    if ((x1 / (100 : Int32)) - (x1 / (100 : Int32)) / (10 : Int32) * (10 : Int32)) = 0 then (
      if ((x1 / (10 : Int32)) - (x1 / (10 : Int32)) / (10 : Int32) * (10 : Int32)) = 0 then (
        if (x1 - x1 / (10 : Int32) * (10 : Int32)) = 0 then (
          bd2 (fX1_matchFree 1 S) fun r_30 S3 =>
          some ((1 : Int32), S3)
        ) else (
          some ((0 : Int32), S)
        )
      ) else (
        some ((0 : Int32), S)
      )
    ) else (
      some ((0 : Int32), S)
    )
  ) else (
  if (x1 / (1000 : Int32)) = (4 : Int32) then (
    if ((x1 / (100 : Int32)) - (x1 / (100 : Int32)) / (10 : Int32) * (10 : Int32)) = 0 then (
      if (((10 : Int32) * ((x1 / (10 : Int32)) - (x1 / (10 : Int32)) / (10 : Int32) * (10 : Int32))) + (x1 - x1 / (10 : Int32) * (10 : Int32))) < (1 : Int32) then (
        some ((0 : Int32), S)
      ) else (
        if (((10 : Int32) * ((x1 / (10 : Int32)) - (x1 / (10 : Int32)) / (10 : Int32) * (10 : Int32))) + (x1 - x1 / (10 : Int32) * (10 : Int32))) ≤ (50 : Int32) then (
          bd2 (fX1_settleBy 1 (((10 : Int32) * ((x1 / (10 : Int32)) - (x1 / (10 : Int32)) / (10 : Int32) * (10 : Int32))) + (x1 - x1 / (10 : Int32) * (10 : Int32))) S) fun r_36 S4 =>
          some ((1 : Int32), S4)
        ) else (
          some ((0 : Int32), S)
        )
      )
    ) else (
      some ((0 : Int32), S)
    )
  ) else (
  if (x1 / (1000 : Int32)) = (5 : Int32) then (
    if ((((100 : Int32) * ((x1 / (100 : Int32)) - (x1 / (100 : Int32)) / (10 : Int32) * (10 : Int32))) + ((10 : Int32) * ((x1 / (10 : Int32)) - (x1 / (10 : Int32)) / (10 : Int32) * (10 : Int32)))) + (x1 - x1 / (10 : Int32) * (10 : Int32))) ≤ (511 : Int32) then (
      bd1 (fX1_passWeek 1 ((((100 : Int32) * ((x1 / (100 : Int32)) - (x1 / (100 : Int32)) / (10 : Int32) * (10 : Int32))) + ((10 : Int32) * ((x1 / (10 : Int32)) - (x1 / (10 : Int32)) / (10 : Int32) * (10 : Int32)))) + (x1 - x1 / (10 : Int32) * (10 : Int32))) S) fun S5 =>
      some ((1 : Int32), S5)
    ) else (
      some ((0 : Int32), S)
    )
  ) else (
  if (x1 / (1000 : Int32)) = (6 : Int32) then (
    bd1 (fX1_has 1 ((x1 / (100 : Int32)) - (x1 / (100 : Int32)) / (10 : Int32) * (10 : Int32)) S) fun r_43 =>
    if r_43 = 0 then (
      some ((0 : Int32), S)
    ) else (
      if ((x1 / (10 : Int32)) - (x1 / (10 : Int32)) / (10 : Int32) * (10 : Int32)) < (4 : Int32) then (
        bd1 (fX1_grade 1 ((x1 / (100 : Int32)) - (x1 / (100 : Int32)) / (10 : Int32) * (10 : Int32)) ((x1 / (10 : Int32)) - (x1 / (10 : Int32)) / (10 : Int32) * (10 : Int32)) ((10 : Int32) * (x1 - x1 / (10 : Int32) * (10 : Int32))) S) fun S6 =>
        some ((1 : Int32), S6)
      ) else (
        some ((0 : Int32), S)
      )
    )
  ) else (
  if (x1 / (1000 : Int32)) = (7 : Int32) then (
    if (x1 - x1 / (10 : Int32) * (10 : Int32)) = 0 then (
      bd1 (fX1_has 1 ((x1 / (100 : Int32)) - (x1 / (100 : Int32)) / (10 : Int32) * (10 : Int32)) S) fun r_51 =>
      if r_51 = 0 then (
        some ((0 : Int32), S)
      ) else (
        bd1 (fX1_has 1 ((x1 / (10 : Int32)) - (x1 / (10 : Int32)) / (10 : Int32) * (10 : Int32)) S) fun r_54 =>
        if r_54 = 0 then (
          some ((0 : Int32), S)
        ) else (
          chk (tein ((x1 / (100 : Int32)) - (x1 / (100 : Int32)) / (10 : Int32) * (10 : Int32)) 9) <|
          if (S 1 (2 + 10 * ((x1 / (100 : Int32)) - (x1 / (100 : Int32)) / (10 : Int32) * (10 : Int32)).toNatClampNeg + 8)) = ((x1 / (10 : Int32)) - (x1 / (10 : Int32)) / (10 : Int32) * (10 : Int32)) then (
            some ((1 : Int32), S)
          ) else (
            some ((0 : Int32), S)
          )
        )
      )
    ) else (
      some ((0 : Int32), S)
    )
  ) else (
  if (x1 / (1000 : Int32)) = (8 : Int32) then (
    if ((x1 / (100 : Int32)) - (x1 / (100 : Int32)) / (10 : Int32) * (10 : Int32)) = 0 then (
      if ((x1 / (10 : Int32)) - (x1 / (10 : Int32)) / (10 : Int32) * (10 : Int32)) = 0 then (
        bd1 (fX1_countPairs 1 S) fun r_62 =>
        if r_62 = (x1 - x1 / (10 : Int32) * (10 : Int32)) then (
          some ((1 : Int32), S)
        ) else (
          some ((0 : Int32), S)
        )
      ) else (
        some ((0 : Int32), S)
      )
    ) else (
      some ((0 : Int32), S)
    )
  ) else (
  if (x1 / (1000 : Int32)) = (9 : Int32) then (
    bd1 (fX1_has 1 ((x1 / (100 : Int32)) - (x1 / (100 : Int32)) / (10 : Int32) * (10 : Int32)) S) fun r_66 =>
    if r_66 = 0 then (
      some ((0 : Int32), S)
    ) else (
      if (4 : Int32) ≤ ((x1 / (10 : Int32)) - (x1 / (10 : Int32)) / (10 : Int32) * (10 : Int32)) then (
        some ((0 : Int32), S)
      ) else (
        chk (tein ((x1 / (100 : Int32)) - (x1 / (100 : Int32)) / (10 : Int32) * (10 : Int32)) 9) <|
        chk (tein ((x1 / (10 : Int32)) - (x1 / (10 : Int32)) / (10 : Int32) * (10 : Int32)) 4) <|
        if (S 1 (2 + 10 * ((x1 / (100 : Int32)) - (x1 / (100 : Int32)) / (10 : Int32) * (10 : Int32)).toNatClampNeg + ((x1 / (10 : Int32)) - (x1 / (10 : Int32)) / (10 : Int32) * (10 : Int32)).toNatClampNeg)) = (x1 - x1 / (10 : Int32) * (10 : Int32)) then (
          some ((1 : Int32), S)
        ) else (
          some ((0 : Int32), S)
        )
      )
    )
  ) else (
    some ((0 : Int32), S)
  )))))))))
def fX5_runScript_46 (x1 : Int32) (x2 : Int64) : Nat → teS → Int32 → Option (Nat ⊕ (Int32 × teS))
  | 0, _, _ => none
  | n + 1, S1, v4 =>
    if x1 ≤ v4 then (
      some (.inr ((-9999 : Int32), S1))
    ) else (
      bd1 (fX5_withoutLowestGroups x2 ((x1 - (1 : Int32)) - v4) S1) fun r_10 =>
      bd2 (fX5_commandSucceeds (((r_10 - r_10 / (10000 : Int64) * (10000 : Int64))).toInt32) S1) fun r_12 S2 =>
      if r_12 = 0 then (
        some (.inr (v4, S2))
      ) else (
        fX5_runScript_46 x1 x2 n S2 (v4 + (1 : Int32))
      )
    )
def fX5_runScript (x1 : Int32) (x2 : Int64) (S : teS) : Option (Nat ⊕ (Int32 × teS)) :=
  bx1 (fX5_requireRange x1 (1 : Int32) (4 : Int32) S) fun _ =>
  if (lg_cmp x2 (0 : Int64)) < 0 then (
    some (.inl 1)
  ) else (
    bd1 (fX5_withoutLowestGroups x2 x1 S) fun r_4 =>
    if (lg_cmp r_4 (0 : Int64)) = 0 then (
      bd1 (fX1_copyFrom 1 0 S) fun S1 =>
      fX5_runScript_46 x1 x2 2000 S1 (0 : Int32)
    ) else (
      some (.inl 1)
    )
  )
def fX5_simulate_65 (x1 : Int64) (x3 : Int32) (q24 : teS → Int64 → Int32 → Option (Nat ⊕ (Int32 × teS))) (S1 : teS) (v4 : Int64) (v6 : Int32) (v7 : Int32) : Option (Nat ⊕ (Int32 × teS)) :=
  bd1 (fX1_passWeek 1 ((v7 / (4 : Int32)) - (v7 / (4 : Int32)) / (512 : Int32) * (512 : Int32)) S1) fun S2 =>
  q24 S2 v4 (v6 + (1 : Int32))
def fX5_simulate_24 (x1 : Int64) (x3 : Int32) : Nat → teS → Int64 → Int32 → Option (Nat ⊕ (Int32 × teS))
  | 0, _, _, _ => none
  | n + 1, S1, v4, v6 =>
    if x3 ≤ v6 then (
      bd1 (fX1_sumOfCredits 1 S1) fun r_6 =>
      some (.inr (r_6, S1))
    ) else (
      if ((((((v4 * (6364136223846793005 : Int64)) + (1442695040888963407 : Int64))).toUInt64 >>> (((33 : Int32)).toInt64.toUInt64 &&& Int64.toUInt64 63)).toInt64).toInt32 - (((((v4 * (6364136223846793005 : Int64)) + (1442695040888963407 : Int64))).toUInt64 >>> (((33 : Int32)).toInt64.toUInt64 &&& Int64.toUInt64 63)).toInt64).toInt32 / (4 : Int32) * (4 : Int32)) = 0 then (
        bd2 (fX1_matchFree 1 S1) fun r_9 S2 =>
        fX5_simulate_65 x1 x3 (fX5_simulate_24 x1 x3 n) S2 ((v4 * (6364136223846793005 : Int64)) + (1442695040888963407 : Int64)) v6 (((((v4 * (6364136223846793005 : Int64)) + (1442695040888963407 : Int64))).toUInt64 >>> (((33 : Int32)).toInt64.toUInt64 &&& Int64.toUInt64 63)).toInt64).toInt32
      ) else (
        fX5_simulate_65 x1 x3 (fX5_simulate_24 x1 x3 n) S1 ((v4 * (6364136223846793005 : Int64)) + (1442695040888963407 : Int64)) v6 (((((v4 * (6364136223846793005 : Int64)) + (1442695040888963407 : Int64))).toUInt64 >>> (((33 : Int32)).toInt64.toUInt64 &&& Int64.toUInt64 63)).toInt64).toInt32
      )
    )
def fX5_simulate (x1 : Int64) (x3 : Int32) (S : teS) : Option (Nat ⊕ (Int32 × teS)) :=
  bx1 (fX5_requireRange x3 (1 : Int32) (60 : Int32) S) fun _ =>
  bd1 (fX1_copyFrom 1 0 S) fun S1 =>
  fX5_simulate_24 x1 x3 2000 S1 x1 (0 : Int32)
def fX5_requireSlot (x0 : Int32) (S : teS) : Option (Nat ⊕ Unit) :=
  if x0 < 0 then (
    some (.inl 3)
  ) else (
    if x0 < (2 : Int32) then (
      some (.inr ())
    ) else (
      some (.inl 3)
    )
  )
def fX5_save (x1 : Int32) (S : teS) : Option (Nat ⊕ (Int32 × teS)) :=
  bx1 (fX5_requireSlot x1 S) fun _ =>
  chk (tein x1 2) <|
  bd1 (fX1_copyFrom (16 + x1.toNatClampNeg) 0 S) fun S1 =>
  lt1 (teu S1 366 x1.toNatClampNeg (vp_nar .boolean (1 : Int32))) fun S2 =>
  some (.inr ((S2 0 1), S2))
def fX5_restore (x1 : Int32) (S : teS) : Option (Nat ⊕ (Int32 × teS)) :=
  bx1 (fX5_requireSlot x1 S) fun _ =>
  chk (tein x1 2) <|
  if (S 366 x1.toNatClampNeg) = 0 then (
    some (.inl 2)
  ) else (
    bd1 (fX1_copyFrom 0 (16 + x1.toNatClampNeg) S) fun S1 =>
    bd1 (fX2_forget S1) fun S2 =>
    some (.inr ((S2 0 1), S2))
  )
def fX6_thrown (S : teS) : Option Int32 :=
  some (S 369 0)
def fX6_refused (x1 : Int32) (S : teS) : Option (Int32 × teS) :=
  lt1 (teu S 369 0 x1) fun S1 =>
  if x1 ≤ 0 then (
    some ((0 : Int32), S1)
  ) else (
    some ((1 : Int32), S1)
  )
def fX6_in (x0 : Int64) (x2 : Int64) (x4 : Int64) (S : teS) : Option Int32 :=
  if (lg_cmp x0 x2) < 0 then (
    some (0 : Int32)
  ) else (
    if 0 < (lg_cmp x0 x4) then (
      some (0 : Int32)
    ) else (
      some (1 : Int32)
    )
  )
def fX6_copyPage_3 (r0 : Nat) (x1 : Int32) (r2 : Nat) (x3 : Int32) : Nat → teS → Int32 → Option teS
  | 0, _, _ => none
  | n + 1, S1, v4 =>
    if (92 : Int32) ≤ v4 then (
      some S1
    ) else (
      chk (tein (x1 + v4) (teI r0)) <|
      chk (tein (x3 + v4) (teI r2)) <|
      lt1 (teu S1 r2 (x3 + v4).toNatClampNeg (S1 r0 (x1 + v4).toNatClampNeg)) fun S2 =>
      fX6_copyPage_3 r0 x1 r2 x3 n S2 (v4 + (1 : Int32))
    )
def fX6_copyPage (r0 : Nat) (x1 : Int32) (r2 : Nat) (x3 : Int32) (S : teS) : Option teS :=
  fX6_copyPage_3 r0 x1 r2 x3 2000 S (0 : Int32)
def fX6_at (x0 : Int32) (S : teS) : Option Int32 :=
  some ((2 : Int32) + ((10 : Int32) * x0))
def fX6_isMember (r0 : Nat) (x1 : Int32) (S : teS) : Option Int32 :=
  chk (tein (0 : Int32) (teI r0)) <|
  bd1 (fX6_in ((x1).toInt64) (0 : Int64) ((((S r0 (0 : Int32).toNatClampNeg) - (1 : Int32))).toInt64) S) fun r_2 =>
  chk (decide (r_2 &&& 1 = r_2)) <|
  some r_2
def fX6_better (r0 : Nat) (x1 : Int32) (x2 : Int32) (S : teS) : Option Int32 :=
  bd1 (fX6_at x1 S) fun r_1 =>
  chk (tein (r_1 + (4 : Int32)) (teI r0)) <|
  bd1 (fX6_at x2 S) fun r_4 =>
  chk (tein (r_4 + (S r0 (r_1 + (4 : Int32)).toNatClampNeg)) (teI r0)) <|
  bd1 (fX6_at x1 S) fun r_7 =>
  chk (tein (r_7 + (S r0 (r_1 + (4 : Int32)).toNatClampNeg)) (teI r0)) <|
  some ((S r0 (r_4 + (S r0 (r_1 + (4 : Int32)).toNatClampNeg)).toNatClampNeg) - (S r0 (r_7 + (S r0 (r_1 + (4 : Int32)).toNatClampNeg)).toNatClampNeg))
def fX6_quarter (x0 : Int32) (S : teS) : Option Int32 :=
  if 0 ≤ x0 then (
    some (x0 / (4 : Int32))
  ) else (
    some (-(((3 : Int32) - x0) / (4 : Int32)))
  )
def fX6_score (r0 : Nat) (x1 : Int32) (x2 : Int32) (S : teS) : Option Int32 :=
  bd1 (fX6_better r0 x1 x2 S) fun r_1 =>
  bd1 (fX6_at x2 S) fun r_3 =>
  chk (tein (r_3 + (7 : Int32)) (teI r0)) <|
  bd1 (fX6_at x2 S) fun r_6 =>
  chk (tein (r_6 + (6 : Int32)) (teI r0)) <|
  bd1 (fX6_quarter (S r0 (r_6 + (6 : Int32)).toNatClampNeg) S) fun r_9 =>
  some ((((10 : Int32) * r_1) - ((5 : Int32) * (S r0 (r_3 + (7 : Int32)).toNatClampNeg))) + r_9)
def fX6_valueOf (r0 : Nat) (x1 : Int32) (x2 : Int32) (S : teS) : Option Int32 :=
  bd1 (fX6_score r0 x1 x2 S) fun r_1 =>
  bd1 (fX6_score r0 x2 x1 S) fun r_3 =>
  some (r_1 + r_3)
def fX6_fit (r0 : Nat) (x1 : Int32) (x2 : Int32) (S : teS) : Option Int32 :=
  if x1 = x2 then (
    some (0 : Int32)
  ) else (
    bd1 (fX6_better r0 x1 x2 S) fun r_2 =>
    if r_2 < (2 : Int32) then (
      some (0 : Int32)
    ) else (
      bd1 (fX6_better r0 x2 x1 S) fun r_5 =>
      if r_5 < (2 : Int32) then (
        some (0 : Int32)
      ) else (
        some (1 : Int32)
      )
    )
  )
def fX6_isFree (r0 : Nat) (x1 : Int32) (S : teS) : Option Int32 :=
  bd1 (fX6_at x1 S) fun r_1 =>
  chk (tein (r_1 + (8 : Int32)) (teI r0)) <|
  if (S r0 (r_1 + (8 : Int32)).toNatClampNeg) = (-9999 : Int32) then (
    some (1 : Int32)
  ) else (
    some (0 : Int32)
  )
def fX6_prefers (r0 : Nat) (x1 : Int32) (x2 : Int32) (S : teS) : Option Int32 :=
  bd1 (fX6_isFree r0 x1 S) fun r_1 =>
  if r_1 = 0 then (
    bd1 (fX6_at x1 S) fun r_4 =>
    chk (tein (r_4 + (8 : Int32)) (teI r0)) <|
    bd1 (fX6_score r0 x1 (S r0 (r_4 + (8 : Int32)).toNatClampNeg) S) fun r_7 =>
    bd1 (fX6_score r0 x1 x2 S) fun r_9 =>
    if r_9 ≤ r_7 then (
      some (0 : Int32)
    ) else (
      some (1 : Int32)
    )
  ) else (
    some (1 : Int32)
  )
def fX6_block (r0 : Nat) (x1 : Int32) (x2 : Int32) (S : teS) : Option Int32 :=
  bd1 (fX6_fit r0 x1 x2 S) fun r_1 =>
  if r_1 = 0 then (
    some (0 : Int32)
  ) else (
    bd1 (fX6_at x1 S) fun r_4 =>
    chk (tein (r_4 + (8 : Int32)) (teI r0)) <|
    if (S r0 (r_4 + (8 : Int32)).toNatClampNeg) = x2 then (
      some (0 : Int32)
    ) else (
      bd1 (fX6_prefers r0 x1 x2 S) fun r_8 =>
      if r_8 = 0 then (
        some (0 : Int32)
      ) else (
        bd1 (fX6_prefers r0 x2 x1 S) fun r_11 =>
        if r_11 = 0 then (
          some (0 : Int32)
        ) else (
          some (1 : Int32)
        )
      )
    )
  )
def fX6_free (r0 : Nat) (x1 : Int32) (S : teS) : Option teS :=
  bd1 (fX6_at x1 S) fun r_1 =>
  chk (tein (r_1 + (8 : Int32)) (teI r0)) <|
  lt1 (teu S r0 (r_1 + (8 : Int32)).toNatClampNeg (-9999 : Int32)) fun S1 =>
  bd1 (fX6_at x1 S1) fun r_4 =>
  chk (tein (r_4 + (9 : Int32)) (teI r0)) <|
  lt1 (teu S1 r0 (r_4 + (9 : Int32)).toNatClampNeg (0 : Int32)) fun S2 =>
  some S2
def fX6_partOn (r0 : Nat) (x1 : Int32) (S : teS) : Option teS :=
  bd1 (fX6_at x1 S) fun r_1 =>
  chk (tein (r_1 + (8 : Int32)) (teI r0)) <|
  if (S r0 (r_1 + (8 : Int32)).toNatClampNeg) = (-9999 : Int32) then (
    some S
  ) else (
    bd1 (fX6_free r0 x1 S) fun S1 =>
    bd1 (fX6_free r0 (S r0 (r_1 + (8 : Int32)).toNatClampNeg) S1) fun S2 =>
    some S2
  )
def fX6_pairOn (r0 : Nat) (x1 : Int32) (x2 : Int32) (S : teS) : Option teS :=
  bd1 (fX6_partOn r0 x1 S) fun S1 =>
  bd1 (fX6_partOn r0 x2 S1) fun S2 =>
  bd1 (fX6_at x1 S2) fun r_5 =>
  chk (tein (r_5 + (8 : Int32)) (teI r0)) <|
  lt1 (teu S2 r0 (r_5 + (8 : Int32)).toNatClampNeg x2) fun S3 =>
  bd1 (fX6_at x2 S3) fun r_8 =>
  chk (tein (r_8 + (8 : Int32)) (teI r0)) <|
  lt1 (teu S3 r0 (r_8 + (8 : Int32)).toNatClampNeg x1) fun S4 =>
  some S4
def fX6_mend (r0 : Nat) (x1 : Int32) (S : teS) : Option teS :=
  bd1 (fX6_at x1 S) fun r_1 =>
  chk (tein (r_1 + (8 : Int32)) (teI r0)) <|
  if (S r0 (r_1 + (8 : Int32)).toNatClampNeg) = (-9999 : Int32) then (
    some S
  ) else (
    bd1 (fX6_fit r0 x1 (S r0 (r_1 + (8 : Int32)).toNatClampNeg) S) fun r_5 =>
    if r_5 = 0 then (
      bd1 (fX6_partOn r0 x1 S) fun S1 =>
      some S1
    ) else (
      some S
    )
  )
def fX6_matchOn_76 (r0 : Nat) (q4 : teS → Int32 → Int32 → Option (Int32 × teS)) (q20 : teS → Int32 → Int32 → Int32 → Int32 → Option (Int32 × teS)) (q34 : teS → Int32 → Int32 → Int32 → Int32 → Int32 → Option (Int32 × teS)) (S1 : teS) (v1 : Int32) (v3 : Int32) (v4 : Int32) (v5 : Int32) (v6 : Int32) (y0 : Int32) : Option (Int32 × teS) :=
  if y0 = 0 then (
    q34 S1 v1 v3 v4 v5 (v6 + (1 : Int32))
  ) else (
    if v3 = (-9999 : Int32) then (
      q34 S1 v1 v5 v6 v5 (v6 + (1 : Int32))
    ) else (
      bd1 (fX6_valueOf r0 v5 v6 S1) fun r_21 =>
      bd1 (fX6_valueOf r0 v3 v4 S1) fun r_23 =>
      if r_21 ≤ r_23 then (
        q34 S1 v1 v3 v4 v5 (v6 + (1 : Int32))
      ) else (
        q34 S1 v1 v5 v6 v5 (v6 + (1 : Int32))
      )
    )
  )
def fX6_matchOn_34 (r0 : Nat) (q4 : teS → Int32 → Int32 → Option (Int32 × teS)) (q20 : teS → Int32 → Int32 → Int32 → Int32 → Option (Int32 × teS)) : Nat → teS → Int32 → Int32 → Int32 → Int32 → Int32 → Option (Int32 × teS)
  | 0, _, _, _, _, _, _ => none
  | n + 1, S1, v1, v3, v4, v5, v6 =>
    chk (tein (0 : Int32) (teI r0)) <|
    if (S1 r0 (0 : Int32).toNatClampNeg) ≤ v6 then (
      q20 S1 v1 v3 v4 (v5 + (1 : Int32))
    ) else (
      bd1 (fX6_isFree r0 v5 S1) fun r_10 =>
      if r_10 = 0 then (
        fX6_matchOn_76 r0 q4 q20 (fX6_matchOn_34 r0 q4 q20 n) S1 v1 v3 v4 v5 v6 (0 : Int32)
      ) else (
        bd1 (fX6_isFree r0 v6 S1) fun r_13 =>
        if r_13 = 0 then (
          fX6_matchOn_76 r0 q4 q20 (fX6_matchOn_34 r0 q4 q20 n) S1 v1 v3 v4 v5 v6 (0 : Int32)
        ) else (
          bd1 (fX6_fit r0 v5 v6 S1) fun r_16 =>
          if r_16 = 0 then (
            fX6_matchOn_76 r0 q4 q20 (fX6_matchOn_34 r0 q4 q20 n) S1 v1 v3 v4 v5 v6 (0 : Int32)
          ) else (
            fX6_matchOn_76 r0 q4 q20 (fX6_matchOn_34 r0 q4 q20 n) S1 v1 v3 v4 v5 v6 (1 : Int32)
          )
        )
      )
    )
def fX6_matchOn_139 (r0 : Nat) (q4 : teS → Int32 → Int32 → Option (Int32 × teS)) (S1 : teS) (v1 : Int32) (v3 : Int32) (v4 : Int32) (y0 : Int32) : Option (Int32 × teS) :=
  if y0 = 0 then (
    q4 S1 v1 y0
  ) else (
    bd1 (fX6_pairOn r0 v3 v4 S1) fun S2 =>
    q4 S2 (v1 + (1 : Int32)) y0
  )
def fX6_matchOn_20 (r0 : Nat) (q4 : teS → Int32 → Int32 → Option (Int32 × teS)) : Nat → teS → Int32 → Int32 → Int32 → Int32 → Option (Int32 × teS)
  | 0, _, _, _, _, _ => none
  | n + 1, S1, v1, v3, v4, v5 =>
    chk (tein (0 : Int32) (teI r0)) <|
    if (S1 r0 (0 : Int32).toNatClampNeg) ≤ v5 then (
      if v3 = (-9999 : Int32) then (
        fX6_matchOn_139 r0 q4 S1 v1 v3 v4 (0 : Int32)
      ) else (
        fX6_matchOn_139 r0 q4 S1 v1 v3 v4 (1 : Int32)
      )
    ) else (
      fX6_matchOn_34 r0 q4 (fX6_matchOn_20 r0 q4 n) 2000 S1 v1 v3 v4 v5 (v5 + (1 : Int32))
    )
def fX6_matchOn_4 (r0 : Nat) : Nat → teS → Int32 → Int32 → Option (Int32 × teS)
  | 0, _, _, _ => none
  | n + 1, S1, v1, v2 =>
    if v2 = 0 then (
      some (v1, S1)
    ) else (
      fX6_matchOn_20 r0 (fX6_matchOn_4 r0 n) 2000 S1 v1 (-9999 : Int32) (-9999 : Int32) (0 : Int32)
    )
def fX6_matchOn (r0 : Nat) (S : teS) : Option (Int32 × teS) :=
  fX6_matchOn_4 r0 2000 S (0 : Int32) (1 : Int32)
def fX6_blockAt_16 (r0 : Nat) (x1 : Int32) (q4 : teS → Int32 → Int32 → Option Int32) : Nat → teS → Int32 → Int32 → Int32 → Option Int32
  | 0, _, _, _, _ => none
  | n + 1, S1, v2, v3, v4 =>
    chk (tein (0 : Int32) (teI r0)) <|
    if (S1 r0 (0 : Int32).toNatClampNeg) ≤ v4 then (
      q4 S1 v2 (v3 + (1 : Int32))
    ) else (
      bd1 (fX6_block r0 v3 v4 S1) fun r_5 =>
      if r_5 = 0 then (
        fX6_blockAt_16 r0 x1 q4 n S1 v2 v3 (v4 + (1 : Int32))
      ) else (
        if v2 = 0 then (
          some (((10 : Int32) * v3) + v4)
        ) else (
          fX6_blockAt_16 r0 x1 q4 n S1 (v2 + (-1 : Int32)) v3 (v4 + (1 : Int32))
        )
      )
    )
def fX6_blockAt_4 (r0 : Nat) (x1 : Int32) : Nat → teS → Int32 → Int32 → Option Int32
  | 0, _, _, _ => none
  | n + 1, S1, v2, v3 =>
    chk (tein (0 : Int32) (teI r0)) <|
    if (S1 r0 (0 : Int32).toNatClampNeg) ≤ v3 then (
      some (-9999 : Int32)
    ) else (
      fX6_blockAt_16 r0 x1 (fX6_blockAt_4 r0 x1 n) 2000 S1 v2 v3 (v3 + (1 : Int32))
    )
def fX6_blockAt (r0 : Nat) (x1 : Int32) (S : teS) : Option Int32 :=
  fX6_blockAt_4 r0 x1 2000 S x1 (0 : Int32)
def fX6_settleOn_8 (r0 : Nat) (x1 : Int32) : Nat → teS → Int32 → Int32 → Option (Int32 × teS)
  | 0, _, _, _ => none
  | n + 1, S1, v2, v3 =>
    if x1 ≤ v2 then (
      some (v2, S1)
    ) else (
      if v3 = (-9999 : Int32) then (
        some (v2, S1)
      ) else (
        bd1 (fX6_pairOn r0 (v3 / (10 : Int32)) (v3 - v3 / (10 : Int32) * (10 : Int32)) S1) fun S2 =>
        bd1 (fX6_blockAt r0 (0 : Int32) S2) fun r_7 =>
        fX6_settleOn_8 r0 x1 n S2 (v2 + (1 : Int32)) r_7
      )
    )
def fX6_settleOn (r0 : Nat) (x1 : Int32) (S : teS) : Option (Int32 × teS) :=
  bd1 (fX6_blockAt r0 (0 : Int32) S) fun r_1 =>
  fX6_settleOn_8 r0 x1 2000 S (0 : Int32) r_1
def fX6_credit (r0 : Nat) (x1 : Int32) (x2 : Int32) (S : teS) : Option teS :=
  bd1 (fX6_at x1 S) fun r_1 =>
  chk (tein (r_1 + (6 : Int32)) (teI r0)) <|
  bd1 (fX6_at x1 S) fun r_4 =>
  if ((S r0 (r_1 + (6 : Int32)).toNatClampNeg) + x2) ≤ (99 : Int32) then (
    if (-99 : Int32) ≤ ((S r0 (r_1 + (6 : Int32)).toNatClampNeg) + x2) then (
      chk (tein (r_4 + (6 : Int32)) (teI r0)) <|
      lt1 (teu S r0 (r_4 + (6 : Int32)).toNatClampNeg ((S r0 (r_1 + (6 : Int32)).toNatClampNeg) + x2)) fun S1 =>
      some S1
    ) else (
      chk (tein (r_4 + (6 : Int32)) (teI r0)) <|
      lt1 (teu S r0 (r_4 + (6 : Int32)).toNatClampNeg (-99 : Int32)) fun S2 =>
      some S2
    )
  ) else (
    chk (tein (r_4 + (6 : Int32)) (teI r0)) <|
    lt1 (teu S r0 (r_4 + (6 : Int32)).toNatClampNeg (99 : Int32)) fun S3 =>
    some S3
  )
def fX6_learn_82 (r0 : Nat) (x1 : Int32) (x2 : Int32) (S1 : teS) (v4 : Int32) (y0 : Int32) (y1 : Int32) : Option teS :=
  chk (tein y1 (teI r0)) <|
  lt1 (teu S1 r0 y1.toNatClampNeg y0) fun S2 =>
  chk (tein v4 (teI r0)) <|
  if (S2 r0 v4.toNatClampNeg) ≤ (9 : Int32) then (
    lt1 (teu S2 r0 v4.toNatClampNeg (S2 r0 v4.toNatClampNeg)) fun S3 =>
    some S3
  ) else (
    lt1 (teu S2 r0 v4.toNatClampNeg (9 : Int32)) fun S4 =>
    some S4
  )
def fX6_learn_60 (r0 : Nat) (x1 : Int32) (x2 : Int32) (S1 : teS) (v3 : Int32) (v4 : Int32) : Option teS :=
  chk (tein v4 (teI r0)) <|
  if (S1 r0 v4.toNatClampNeg) < (9 : Int32) then (
    chk (tein (v3 + (5 : Int32)) (teI r0)) <|
    fX6_learn_82 r0 x1 x2 S1 v4 (S1 r0 (v3 + (5 : Int32)).toNatClampNeg) (v3 + (5 : Int32))
  ) else (
    fX6_learn_82 r0 x1 x2 S1 v4 (0 : Int32) (v3 + (5 : Int32))
  )
def fX6_learn_30 (r0 : Nat) (x1 : Int32) (x2 : Int32) (S1 : teS) (v3 : Int32) (v4 : Int32) (y0 : Int32) (y1 : Int32) (y2 : Int32) : Option teS :=
  chk (tein y2 (teI r0)) <|
  lt1 (teu S1 r0 y2.toNatClampNeg (y1 + y0)) fun S2 =>
  chk (tein (v3 + (5 : Int32)) (teI r0)) <|
  if (S2 r0 (v3 + (5 : Int32)).toNatClampNeg) < (20 : Int32) then (
    fX6_learn_60 r0 x1 x2 S2 v3 v4
  ) else (
    lt1 (teu S2 r0 (v3 + (5 : Int32)).toNatClampNeg ((S2 r0 (v3 + (5 : Int32)).toNatClampNeg) - (20 : Int32))) fun S3 =>
    chk (tein v4 (teI r0)) <|
    lt1 (teu S3 r0 v4.toNatClampNeg ((S3 r0 v4.toNatClampNeg) + (1 : Int32))) fun S4 =>
    fX6_learn_60 r0 x1 x2 S4 v3 v4
  )
def fX6_learn (r0 : Nat) (x1 : Int32) (x2 : Int32) (S : teS) : Option teS :=
  bd1 (fX6_at x1 S) fun r_1 =>
  chk (tein (r_1 + (4 : Int32)) (teI r0)) <|
  chk (tein (r_1 + (5 : Int32)) (teI r0)) <|
  if (1 : Int32) ≤ x2 then (
    fX6_learn_30 r0 x1 x2 S r_1 (r_1 + (S r0 (r_1 + (4 : Int32)).toNatClampNeg)) x2 (S r0 (r_1 + (5 : Int32)).toNatClampNeg) (r_1 + (5 : Int32))
  ) else (
    fX6_learn_30 r0 x1 x2 S r_1 (r_1 + (S r0 (r_1 + (4 : Int32)).toNatClampNeg)) (1 : Int32) (S r0 (r_1 + (5 : Int32)).toNatClampNeg) (r_1 + (5 : Int32))
  )
def fX6_miss_19 (r0 : Nat) (x1 : Int32) (x2 : Int32) (S1 : teS) (y0 : Int32) (y1 : Int32) (y2 : Int32) : Option teS :=
  chk (tein y2 (teI r0)) <|
  lt1 (teu S1 r0 y2.toNatClampNeg (y1 + y0)) fun S2 =>
  bd1 (fX6_at x1 S2) fun r_6 =>
  chk (tein (r_6 + (9 : Int32)) (teI r0)) <|
  lt1 (teu S2 r0 (r_6 + (9 : Int32)).toNatClampNeg ((S2 r0 (r_6 + (9 : Int32)).toNatClampNeg) + (1 : Int32))) fun S3 =>
  if x2 = 0 then (
    bd1 (fX6_credit r0 x1 (2 : Int32) S3) fun S4 =>
    some S4
  ) else (
    bd1 (fX6_credit r0 x1 (-3 : Int32) S3) fun S5 =>
    some S5
  )
def fX6_miss (r0 : Nat) (x1 : Int32) (x2 : Int32) (S : teS) : Option teS :=
  bd1 (fX6_at x1 S) fun r_1 =>
  chk (tein (r_1 + (7 : Int32)) (teI r0)) <|
  if x2 = 0 then (
    fX6_miss_19 r0 x1 x2 S (0 : Int32) (S r0 (r_1 + (7 : Int32)).toNatClampNeg) (r_1 + (7 : Int32))
  ) else (
    fX6_miss_19 r0 x1 x2 S (1 : Int32) (S r0 (r_1 + (7 : Int32)).toNatClampNeg) (r_1 + (7 : Int32))
  )
def fX6_meet_30 (r0 : Nat) (x1 : Int32) (x2 : Int32) (x3 : Int32) (S1 : teS) (v4 : Int32) (y0 : Int32) : Option teS :=
  if v4 = 0 then (
    if y0 = 0 then (
      bd1 (fX6_better r0 x1 x2 S1) fun r_9 =>
      bd1 (fX6_better r0 x2 x1 S1) fun r_11 =>
      bd1 (fX6_at x1 S1) fun r_13 =>
      chk (tein (r_13 + (9 : Int32)) (teI r0)) <|
      lt1 (teu S1 r0 (r_13 + (9 : Int32)).toNatClampNeg (0 : Int32)) fun S4 =>
      bd1 (fX6_at x2 S4) fun r_16 =>
      chk (tein (r_16 + (9 : Int32)) (teI r0)) <|
      lt1 (teu S4 r0 (r_16 + (9 : Int32)).toNatClampNeg (0 : Int32)) fun S5 =>
      bd1 (fX6_credit r0 x1 (1 : Int32) S5) fun S6 =>
      bd1 (fX6_credit r0 x2 (1 : Int32) S6) fun S7 =>
      bd1 (fX6_learn r0 x1 ((4 : Int32) + r_9) S7) fun S8 =>
      bd1 (fX6_learn r0 x2 ((4 : Int32) + r_11) S8) fun S9 =>
      some S9
    ) else (
      bd1 (fX6_miss r0 x1 v4 S1) fun S10 =>
      bd1 (fX6_miss r0 x2 y0 S10) fun S11 =>
      some S11
    )
  ) else (
    bd1 (fX6_miss r0 x1 v4 S1) fun S2 =>
    bd1 (fX6_miss r0 x2 y0 S2) fun S3 =>
    some S3
  )
def fX6_meet_14 (r0 : Nat) (x1 : Int32) (x2 : Int32) (x3 : Int32) (S1 : teS) (y0 : Int32) : Option teS :=
  if ((x3 >>> (x2 &&& 31)) &&& (1 : Int32)) = (1 : Int32) then (
    fX6_meet_30 r0 x1 x2 x3 S1 y0 (1 : Int32)
  ) else (
    fX6_meet_30 r0 x1 x2 x3 S1 y0 (0 : Int32)
  )
def fX6_meet (r0 : Nat) (x1 : Int32) (x2 : Int32) (x3 : Int32) (S : teS) : Option teS :=
  if ((x3 >>> (x1 &&& 31)) &&& (1 : Int32)) = (1 : Int32) then (
    fX6_meet_14 r0 x1 x2 x3 S (1 : Int32)
  ) else (
    fX6_meet_14 r0 x1 x2 x3 S (0 : Int32)
  )
def fX6_weekOn_45 (r0 : Nat) (x1 : Int32) : Nat → teS → Int32 → Option teS
  | 0, _, _ => none
  | n + 1, S1, v2 =>
    chk (tein (0 : Int32) (teI r0)) <|
    if (S1 r0 (0 : Int32).toNatClampNeg) ≤ v2 then (
      chk (tein (1 : Int32) (teI r0)) <|
      lt1 (teu S1 r0 (1 : Int32).toNatClampNeg ((S1 r0 (1 : Int32).toNatClampNeg) + (1 : Int32))) fun S2 =>
      some S2
    ) else (
      bd1 (fX6_at v2 S1) fun r_15 =>
      chk (tein (r_15 + (8 : Int32)) (teI r0)) <|
      if (S1 r0 (r_15 + (8 : Int32)).toNatClampNeg) = (-9999 : Int32) then (
        fX6_weekOn_45 r0 x1 n S1 (v2 + (1 : Int32))
      ) else (
        bd1 (fX6_fit r0 v2 (S1 r0 (r_15 + (8 : Int32)).toNatClampNeg) S1) fun r_19 =>
        if r_19 = 0 then (
          bd1 (fX6_partOn r0 v2 S1) fun S3 =>
          fX6_weekOn_45 r0 x1 n S3 (v2 + (1 : Int32))
        ) else (
          bd1 (fX6_at v2 S1) fun r_24 =>
          chk (tein (r_24 + (9 : Int32)) (teI r0)) <|
          if (S1 r0 (r_24 + (9 : Int32)).toNatClampNeg) < (3 : Int32) then (
            fX6_weekOn_45 r0 x1 n S1 (v2 + (1 : Int32))
          ) else (
            bd1 (fX6_partOn r0 v2 S1) fun S4 =>
            fX6_weekOn_45 r0 x1 n S4 (v2 + (1 : Int32))
          )
        )
      )
    )
def fX6_weekOn_2 (r0 : Nat) (x1 : Int32) : Nat → teS → Int32 → Option teS
  | 0, _, _ => none
  | n + 1, S1, v2 =>
    chk (tein (0 : Int32) (teI r0)) <|
    if (S1 r0 (0 : Int32).toNatClampNeg) ≤ v2 then (
      fX6_weekOn_45 r0 x1 2000 S1 (0 : Int32)
    ) else (
      bd1 (fX6_at v2 S1) fun r_3 =>
      chk (tein (r_3 + (8 : Int32)) (teI r0)) <|
      if (S1 r0 (r_3 + (8 : Int32)).toNatClampNeg) ≤ v2 then (
        fX6_weekOn_2 r0 x1 n S1 (v2 + (1 : Int32))
      ) else (
        bd1 (fX6_at v2 S1) fun r_7 =>
        chk (tein (r_7 + (8 : Int32)) (teI r0)) <|
        bd1 (fX6_meet r0 v2 (S1 r0 (r_7 + (8 : Int32)).toNatClampNeg) x1 S1) fun S2 =>
        fX6_weekOn_2 r0 x1 n S2 (v2 + (1 : Int32))
      )
    )
def fX6_weekOn (r0 : Nat) (x1 : Int32) (S : teS) : Option teS :=
  fX6_weekOn_2 r0 x1 2000 S (0 : Int32)
def fX6_laySets_231 (r1 : Nat) (q2 : teS → Int32 → Option teS) (q102 : teS → Int32 → Int32 → Int32 → Int32 → Option teS) (S1 : teS) (v2 : Int32) (v3 : Int32) (v4 : Int32) (v5 : Int32) (v8 : Int32) (v9 : Int32) (y0 : Int32) (y1 : Int32) : Option teS :=
  chk (tein y1 512) <|
  lt1 (teu S1 377 y1.toNatClampNeg y0) fun S2 =>
  if v9 = 0 then (
    chk (tein v2 512) <|
    lt1 (teu S2 378 v2.toNatClampNeg (S2 378 v2.toNatClampNeg)) fun S3 =>
    q102 S3 v2 v3 v4 (v5 + (1 : Int32))
  ) else (
    chk (tein v2 512) <|
    lt1 (teu S2 378 v2.toNatClampNeg v8) fun S4 =>
    q102 S4 v2 v3 v4 (v5 + (1 : Int32))
  )
def fX6_laySets_208 (r1 : Nat) (q2 : teS → Int32 → Option teS) (q102 : teS → Int32 → Int32 → Int32 → Int32 → Option teS) (S1 : teS) (v2 : Int32) (v3 : Int32) (v4 : Int32) (v5 : Int32) (v7 : Int32) (v8 : Int32) (y0 : Int32) : Option teS :=
  if y0 = 0 then (
    chk (tein v2 512) <|
    fX6_laySets_231 r1 q2 q102 S1 v2 v3 v4 v5 v8 y0 (S1 377 v2.toNatClampNeg) v2
  ) else (
    fX6_laySets_231 r1 q2 q102 S1 v2 v3 v4 v5 v8 y0 v7 v2
  )
def fX6_laySets_102 (r1 : Nat) (q2 : teS → Int32 → Option teS) : Nat → teS → Int32 → Int32 → Int32 → Int32 → Option teS
  | 0, _, _, _, _, _ => none
  | n + 1, S1, v2, v3, v4, v5 =>
    chk (tein (0 : Int32) (teI r1)) <|
    if (S1 r1 (0 : Int32).toNatClampNeg) ≤ v5 then (
      q2 S1 (v2 + (1 : Int32))
    ) else (
      if ((v4 >>> (v5 &&& 31)) &&& (1 : Int32)) = (1 : Int32) then (
        bd1 (fX6_fit r1 v3 v5 S1) fun r_13 =>
        if r_13 = 0 then (
          fX6_laySets_102 r1 q2 n S1 v2 v3 v4 (v5 + (1 : Int32))
        ) else (
          chk (tein (v4 &&& (((1 : Int32) <<< (v5 &&& 31)) ^^^ (-1 : Int32))) 512) <|
          bd1 (fX6_valueOf r1 v3 v5 S1) fun r_17 =>
          chk (tein v2 512) <|
          if (S1 377 v2.toNatClampNeg) < ((S1 377 (v4 &&& (((1 : Int32) <<< (v5 &&& 31)) ^^^ (-1 : Int32))).toNatClampNeg) + (1 : Int32)) then (
            fX6_laySets_208 r1 q2 (fX6_laySets_102 r1 q2 n) S1 v2 v3 v4 v5 ((S1 377 (v4 &&& (((1 : Int32) <<< (v5 &&& 31)) ^^^ (-1 : Int32))).toNatClampNeg) + (1 : Int32)) ((S1 378 (v4 &&& (((1 : Int32) <<< (v5 &&& 31)) ^^^ (-1 : Int32))).toNatClampNeg) + r_17) (1 : Int32)
          ) else (
            if ((S1 377 (v4 &&& (((1 : Int32) <<< (v5 &&& 31)) ^^^ (-1 : Int32))).toNatClampNeg) + (1 : Int32)) = (S1 377 v2.toNatClampNeg) then (
              if ((S1 378 (v4 &&& (((1 : Int32) <<< (v5 &&& 31)) ^^^ (-1 : Int32))).toNatClampNeg) + r_17) ≤ (S1 378 v2.toNatClampNeg) then (
                fX6_laySets_208 r1 q2 (fX6_laySets_102 r1 q2 n) S1 v2 v3 v4 v5 ((S1 377 (v4 &&& (((1 : Int32) <<< (v5 &&& 31)) ^^^ (-1 : Int32))).toNatClampNeg) + (1 : Int32)) ((S1 378 (v4 &&& (((1 : Int32) <<< (v5 &&& 31)) ^^^ (-1 : Int32))).toNatClampNeg) + r_17) (0 : Int32)
              ) else (
                fX6_laySets_208 r1 q2 (fX6_laySets_102 r1 q2 n) S1 v2 v3 v4 v5 ((S1 377 (v4 &&& (((1 : Int32) <<< (v5 &&& 31)) ^^^ (-1 : Int32))).toNatClampNeg) + (1 : Int32)) ((S1 378 (v4 &&& (((1 : Int32) <<< (v5 &&& 31)) ^^^ (-1 : Int32))).toNatClampNeg) + r_17) (1 : Int32)
              )
            ) else (
              fX6_laySets_208 r1 q2 (fX6_laySets_102 r1 q2 n) S1 v2 v3 v4 v5 ((S1 377 (v4 &&& (((1 : Int32) <<< (v5 &&& 31)) ^^^ (-1 : Int32))).toNatClampNeg) + (1 : Int32)) ((S1 378 (v4 &&& (((1 : Int32) <<< (v5 &&& 31)) ^^^ (-1 : Int32))).toNatClampNeg) + r_17) (0 : Int32)
            )
          )
        )
      ) else (
        fX6_laySets_102 r1 q2 n S1 v2 v3 v4 (v5 + (1 : Int32))
      )
    )
def fX6_laySets_62 (r1 : Nat) (q2 : teS → Int32 → Option teS) (S1 : teS) (v2 : Int32) (v3 : Int32) (y0 : Int32) : Option teS :=
  chk (tein (0 : Int32) (teI r1)) <|
  if (S1 r1 (0 : Int32).toNatClampNeg) ≤ v3 then (
    fX6_laySets_102 r1 q2 2000 S1 v2 v3 y0 (v3 + (1 : Int32))
  ) else (
    chk (tein y0 512) <|
    chk (tein v2 512) <|
    lt1 (teu S1 377 v2.toNatClampNeg (S1 377 y0.toNatClampNeg)) fun S2 =>
    lt1 (teu S2 378 v2.toNatClampNeg (S2 378 y0.toNatClampNeg)) fun S3 =>
    fX6_laySets_102 r1 q2 2000 S3 v2 v3 y0 (v3 + (1 : Int32))
  )
def fX6_laySets_45 (r1 : Nat) (q2 : teS → Int32 → Option teS) (S1 : teS) (v2 : Int32) (v3 : Int32) : Option teS :=
  if v3 = (9 : Int32) then (
    fX6_laySets_62 r1 q2 S1 v2 v3 (0 : Int32)
  ) else (
    fX6_laySets_62 r1 q2 S1 v2 v3 (v2 &&& (((1 : Int32) <<< (v3 &&& 31)) ^^^ (-1 : Int32)))
  )
def fX6_laySets_25 (r1 : Nat) (q2 : teS → Int32 → Option teS) : Nat → teS → Int32 → Int32 → Option teS
  | 0, _, _, _ => none
  | n + 1, S1, v2, v3 =>
    if (9 : Int32) ≤ v3 then (
      fX6_laySets_45 r1 q2 S1 v2 v3
    ) else (
      if ((v2 >>> (v3 &&& 31)) &&& (1 : Int32)) = 0 then (
        fX6_laySets_25 r1 q2 n S1 v2 (v3 + (1 : Int32))
      ) else (
        fX6_laySets_45 r1 q2 S1 v2 v3
      )
    )
def fX6_laySets_2 (r1 : Nat) : Nat → teS → Int32 → Option teS
  | 0, _, _ => none
  | n + 1, S1, v2 =>
    if (512 : Int32) ≤ v2 then (
      some S1
    ) else (
      chk (tein v2 512) <|
      lt1 (teu S1 377 v2.toNatClampNeg (0 : Int32)) fun S2 =>
      lt1 (teu S2 378 v2.toNatClampNeg (0 : Int32)) fun S3 =>
      fX6_laySets_25 r1 (fX6_laySets_2 r1 n) 2000 S3 v2 (0 : Int32)
    )
def fX6_laySets (r1 : Nat) (S : teS) : Option teS :=
  fX6_laySets_2 r1 2000 S (0 : Int32)
def fX6_append_31 (x1 : Int32) (S1 : teS) (y0 : Int32) : Option (Int32 × teS) :=
  bd2 (fX6_refused y0 S1) fun r_5 S2 =>
  if r_5 = 0 then (
    chk (tein (S2 369 1) 90) <|
    lt1 (teu S2 370 (S2 369 1).toNatClampNeg x1) fun S3 =>
    lt1 (teu S3 369 1 ((S3 369 1) + (1 : Int32))) fun S4 =>
    some ((S4 369 1), S4)
  ) else (
    some ((0 : Int32), S2)
  )
def fX6_append (x1 : Int32) (S : teS) : Option (Int32 × teS) :=
  bd1 (fX6_in ((x1).toInt64) (0 : Int64) (255 : Int64) S) fun r_1 =>
  if r_1 = 0 then (
    fX6_append_31 x1 S (1 : Int32)
  ) else (
    if (S 369 1) = (90 : Int32) then (
      fX6_append_31 x1 S (2 : Int32)
    ) else (
      fX6_append_31 x1 S (0 : Int32)
    )
  )
def fX6_clearText (S : teS) : Option (Int32 × teS) :=
  lt1 (teu S 369 0 (0 : Int32)) fun S1 =>
  lt1 (teu S1 369 1 (0 : Int32)) fun S2 =>
  some ((S1 369 1), S2)
def fX6_eat_29 (x1 : Int32) (S1 : teS) (y0 : Int32) : Option (Int32 × teS) :=
  if y0 = 0 then (
    lt1 (teu S1 369 2 ((S1 369 2) + (0 : Int32))) fun S2 =>
    chk (decide (y0 &&& 1 = y0)) <|
    some (y0, S2)
  ) else (
    lt1 (teu S1 369 2 ((S1 369 2) + (1 : Int32))) fun S3 =>
    chk (decide (y0 &&& 1 = y0)) <|
    some (y0, S3)
  )
def fX6_eat (x1 : Int32) (S : teS) : Option (Int32 × teS) :=
  if (S 369 1) ≤ (S 369 2) then (
    fX6_eat_29 x1 S (0 : Int32)
  ) else (
    chk (tein (S 369 2) 90) <|
    if (S 370 (S 369 2).toNatClampNeg) = x1 then (
      fX6_eat_29 x1 S (1 : Int32)
    ) else (
      fX6_eat_29 x1 S (0 : Int32)
    )
  )
def fX6_digit_29 (x1 : Int32) (S1 : teS) (y0 : Int32) : Option (Int32 × teS) :=
  bd1 (fX6_in ((y0).toInt64) (0 : Int64) ((x1).toInt64) S1) fun r_3 =>
  if r_3 = 0 then (
    lt1 (teu S1 369 2 ((S1 369 2) + (0 : Int32))) fun S2 =>
    if r_3 = 0 then (
      some ((-9999 : Int32), S2)
    ) else (
      some (y0, S2)
    )
  ) else (
    lt1 (teu S1 369 2 ((S1 369 2) + (1 : Int32))) fun S3 =>
    if r_3 = 0 then (
      some ((-9999 : Int32), S3)
    ) else (
      some (y0, S3)
    )
  )
def fX6_digit (x1 : Int32) (S : teS) : Option (Int32 × teS) :=
  if (S 369 1) ≤ (S 369 2) then (
    fX6_digit_29 x1 S (-9999 : Int32)
  ) else (
    chk (tein (S 369 2) 90) <|
    fX6_digit_29 x1 S ((S 370 (S 369 2).toNatClampNeg) - (48 : Int32))
  )
def fX6_readMember_130 (S1 : teS) (v1 : Int32) (v3 : Int32) (y0 : Int32) : Option (Int32 × teS) :=
  if y0 = (-9999 : Int32) then (
    some ((0 : Int32), S1)
  ) else (
    chk (tein (v1 + (5 : Int32)) 92) <|
    lt1 (teu S1 371 (v1 + (5 : Int32)).toNatClampNeg (0 : Int32)) fun S2 =>
    chk (tein (v1 + (6 : Int32)) 92) <|
    lt1 (teu S2 371 (v1 + (6 : Int32)).toNatClampNeg (((10 : Int32) * v3) + y0)) fun S3 =>
    chk (tein (v1 + (7 : Int32)) 92) <|
    lt1 (teu S3 371 (v1 + (7 : Int32)).toNatClampNeg (0 : Int32)) fun S4 =>
    chk (tein (0 : Int32) 92) <|
    bd1 (fX6_free 371 (S4 371 (0 : Int32).toNatClampNeg) S4) fun S5 =>
    lt1 (teu S5 371 (0 : Int32).toNatClampNeg ((S5 371 (0 : Int32).toNatClampNeg) + (1 : Int32))) fun S6 =>
    some ((1 : Int32), S6)
  )
def fX6_readMember_110 (S1 : teS) (v1 : Int32) (y0 : Int32) : Option (Int32 × teS) :=
  if y0 = (-9999 : Int32) then (
    fX6_readMember_130 S1 v1 y0 (-9999 : Int32)
  ) else (
    bd2 (fX6_digit (9 : Int32) S1) fun r_21 S2 =>
    fX6_readMember_130 S2 v1 y0 r_21
  )
def fX6_readMember_45 : Nat → teS → Int32 → Int32 → Int32 → Option (Int32 × teS)
  | 0, _, _, _, _ => none
  | n + 1, S1, v1, v2, v3 =>
    if (4 : Int32) ≤ v3 then (
      if v2 = 0 then (
        fX6_readMember_110 S1 v1 (-9999 : Int32)
      ) else (
        bd2 (fX6_digit (9 : Int32) S1) fun r_10 S2 =>
        fX6_readMember_110 S2 v1 r_10
      )
    ) else (
      if v2 = 0 then (
        if v2 = 0 then (
          fX6_readMember_110 S1 v1 (-9999 : Int32)
        ) else (
          bd2 (fX6_digit (9 : Int32) S1) fun r_14 S3 =>
          fX6_readMember_110 S3 v1 r_14
        )
      ) else (
        bd2 (fX6_digit (9 : Int32) S1) fun r_16 S4 =>
        chk (tein (v1 + v3) 92) <|
        lt1 (teu S4 371 (v1 + v3).toNatClampNeg r_16) fun S5 =>
        if (S5 371 (v1 + v3).toNatClampNeg) = (-9999 : Int32) then (
          fX6_readMember_45 n S5 v1 (0 : Int32) (v3 + (1 : Int32))
        ) else (
          fX6_readMember_45 n S5 v1 (1 : Int32) (v3 + (1 : Int32))
        )
      )
    )
def fX6_readMember (S : teS) : Option (Int32 × teS) :=
  chk (tein (0 : Int32) 92) <|
  bd1 (fX6_at (S 371 (0 : Int32).toNatClampNeg) S) fun r_2 =>
  bd2 (fX6_digit (3 : Int32) S) fun r_4 S1 =>
  chk (tein (r_2 + (4 : Int32)) 92) <|
  lt1 (teu S1 371 (r_2 + (4 : Int32)).toNatClampNeg r_4) fun S2 =>
  if (S2 371 (r_2 + (4 : Int32)).toNatClampNeg) = (-9999 : Int32) then (
    fX6_readMember_45 2000 S2 r_2 (0 : Int32) (0 : Int32)
  ) else (
    fX6_readMember_45 2000 S2 r_2 (1 : Int32) (0 : Int32)
  )
def fX6_readAll_30 : Nat → teS → Option (Int32 × teS)
  | 0, _ => none
  | n + 1, S1 =>
    chk (tein (0 : Int32) 92) <|
    if (9 : Int32) ≤ (S1 371 (0 : Int32).toNatClampNeg) then (
      if (S1 369 2) = (S1 369 1) then (
        some ((1 : Int32), S1)
      ) else (
        some ((0 : Int32), S1)
      )
    ) else (
      bd2 (fX6_eat (109 : Int32) S1) fun r_9 S2 =>
      if r_9 = 0 then (
        if (S2 369 2) = (S2 369 1) then (
          some ((1 : Int32), S2)
        ) else (
          some ((0 : Int32), S2)
        )
      ) else (
        bd2 (fX6_readMember S2) fun r_13 S3 =>
        if r_13 = 0 then (
          some ((0 : Int32), S3)
        ) else (
          fX6_readAll_30 n S3
        )
      )
    )
def fX6_readAll (S : teS) : Option (Int32 × teS) :=
  lt1 (teu S 369 2 (0 : Int32)) fun S1 =>
  chk (tein (0 : Int32) 92) <|
  lt1 (teu S1 371 (0 : Int32).toNatClampNeg (0 : Int32)) fun S2 =>
  chk (tein (1 : Int32) 92) <|
  lt1 (teu S2 371 (1 : Int32).toNatClampNeg (0 : Int32)) fun S3 =>
  bd2 (fX6_eat (76 : Int32) S3) fun r_3 S4 =>
  if r_3 = 0 then (
    some ((0 : Int32), S4)
  ) else (
    fX6_readAll_30 2000 S4
  )
def fX6_errorPosition (S : teS) : Option (Int32 × teS) :=
  lt1 (teu S 369 0 (0 : Int32)) fun S1 =>
  bd2 (fX6_readAll S1) fun r_1 S2 =>
  if r_1 = 0 then (
    some ((S2 369 2), S2)
  ) else (
    some ((-9999 : Int32), S2)
  )
def fX6_load_13 (S1 : teS) (y0 : Int32) : Option (Int32 × teS) :=
  bd2 (fX6_refused y0 S1) fun r_4 S2 =>
  if r_4 = 0 then (
    bd1 (fX6_copyPage 371 (0 : Int32) 372 (0 : Int32) S2) fun S3 =>
    lt1 (teu S3 369 3 (0 : Int32)) fun S4 =>
    chk (tein (0 : Int32) 2) <|
    lt1 (teu S4 376 (0 : Int32).toNatClampNeg (vp_nar .boolean (0 : Int32))) fun S5 =>
    chk (tein (1 : Int32) 2) <|
    lt1 (teu S5 376 (1 : Int32).toNatClampNeg (vp_nar .boolean (0 : Int32))) fun S6 =>
    chk (tein (0 : Int32) 92) <|
    some ((S6 372 (0 : Int32).toNatClampNeg), S6)
  ) else (
    some ((0 : Int32), S2)
  )
def fX6_load (S : teS) : Option (Int32 × teS) :=
  bd2 (fX6_readAll S) fun r_1 S1 =>
  if r_1 = 0 then (
    fX6_load_13 S1 (1 : Int32)
  ) else (
    fX6_load_13 S1 (0 : Int32)
  )
def fX6_over_115 (r0 : Nat) (x1 : Int32) (q4 : teS → Int32 → Int32 → Option Int32) (q16 : teS → Int32 → Int32 → Int32 → Option Int32) (S1 : teS) (v3 : Int32) (v4 : Int32) (y0 : Int32) (y1 : Int32) : Option Int32 :=
  q16 S1 (y1 + y0) v3 (v4 + (1 : Int32))
def fX6_over_43 (r0 : Nat) (x1 : Int32) (q4 : teS → Int32 → Int32 → Option Int32) (q16 : teS → Int32 → Int32 → Int32 → Option Int32) (S1 : teS) (v2 : Int32) (v3 : Int32) (v4 : Int32) (y0 : Int32) : Option Int32 :=
  if x1 = (1 : Int32) then (
    if y0 = 0 then (
      fX6_over_115 r0 x1 q4 q16 S1 v3 v4 (0 : Int32) v2
    ) else (
      bd1 (fX6_valueOf r0 v3 v4 S1) fun r_20 =>
      fX6_over_115 r0 x1 q4 q16 S1 v3 v4 r_20 v2
    )
  ) else (
    if x1 = 0 then (
      if y0 = 0 then (
        fX6_over_115 r0 x1 q4 q16 S1 v3 v4 (0 : Int32) v2
      ) else (
        fX6_over_115 r0 x1 q4 q16 S1 v3 v4 (1 : Int32) v2
      )
    ) else (
      if x1 = (2 : Int32) then (
        bd1 (fX6_block r0 v3 v4 S1) fun r_15 =>
        if r_15 = 0 then (
          fX6_over_115 r0 x1 q4 q16 S1 v3 v4 (0 : Int32) v2
        ) else (
          fX6_over_115 r0 x1 q4 q16 S1 v3 v4 (1 : Int32) v2
        )
      ) else (
        bd1 (fX6_fit r0 v3 v4 S1) fun r_12 =>
        if r_12 = 0 then (
          fX6_over_115 r0 x1 q4 q16 S1 v3 v4 (0 : Int32) v2
        ) else (
          fX6_over_115 r0 x1 q4 q16 S1 v3 v4 (1 : Int32) v2
        )
      )
    )
  )
def fX6_over_16 (r0 : Nat) (x1 : Int32) (q4 : teS → Int32 → Int32 → Option Int32) : Nat → teS → Int32 → Int32 → Int32 → Option Int32
  | 0, _, _, _, _ => none
  | n + 1, S1, v2, v3, v4 =>
    chk (tein (0 : Int32) (teI r0)) <|
    if (S1 r0 (0 : Int32).toNatClampNeg) ≤ v4 then (
      q4 S1 v2 (v3 + (1 : Int32))
    ) else (
      bd1 (fX6_at v3 S1) fun r_5 =>
      chk (tein (r_5 + (8 : Int32)) (teI r0)) <|
      if (S1 r0 (r_5 + (8 : Int32)).toNatClampNeg) = v4 then (
        fX6_over_43 r0 x1 q4 (fX6_over_16 r0 x1 q4 n) S1 v2 v3 v4 (1 : Int32)
      ) else (
        fX6_over_43 r0 x1 q4 (fX6_over_16 r0 x1 q4 n) S1 v2 v3 v4 (0 : Int32)
      )
    )
def fX6_over_4 (r0 : Nat) (x1 : Int32) : Nat → teS → Int32 → Int32 → Option Int32
  | 0, _, _, _ => none
  | n + 1, S1, v2, v3 =>
    chk (tein (0 : Int32) (teI r0)) <|
    if (S1 r0 (0 : Int32).toNatClampNeg) ≤ v3 then (
      some v2
    ) else (
      fX6_over_16 r0 x1 (fX6_over_4 r0 x1 n) 2000 S1 v2 v3 (v3 + (1 : Int32))
    )
def fX6_over (r0 : Nat) (x1 : Int32) (S : teS) : Option Int32 :=
  fX6_over_4 r0 x1 2000 S (0 : Int32) (0 : Int32)
def fX6_creditsOf_4 (r0 : Nat) : Nat → teS → Int32 → Int32 → Option Int32
  | 0, _, _, _ => none
  | n + 1, S1, v1, v2 =>
    chk (tein (0 : Int32) (teI r0)) <|
    if (S1 r0 (0 : Int32).toNatClampNeg) ≤ v2 then (
      some v1
    ) else (
      bd1 (fX6_at v2 S1) fun r_3 =>
      chk (tein (r_3 + (6 : Int32)) (teI r0)) <|
      fX6_creditsOf_4 r0 n S1 (v1 + (S1 r0 (r_3 + (6 : Int32)).toNatClampNeg)) (v2 + (1 : Int32))
    )
def fX6_creditsOf (r0 : Nat) (S : teS) : Option Int32 :=
  fX6_creditsOf_4 r0 2000 S (0 : Int32) (0 : Int32)
def fX6_about_18 (x1 : Int32) (S1 : teS) (y0 : Int32) : Option (Int32 × teS) :=
  bd2 (fX6_refused y0 S1) fun r_4 S2 =>
  if r_4 = 0 then (
    if x1 = (0 : Int32) then (
      chk (tein (0 : Int32) 92) <|
      some ((S2 372 (0 : Int32).toNatClampNeg), S2)
    ) else (
    if x1 = (1 : Int32) then (
      bd1 (fX6_over 372 (0 : Int32) S2) fun r_10 =>
      some (r_10, S2)
    ) else (
    if x1 = (2 : Int32) then (
      chk (tein (1 : Int32) 92) <|
      some ((S2 372 (1 : Int32).toNatClampNeg), S2)
    ) else (
    if x1 = (3 : Int32) then (
      bd1 (fX6_over 372 (1 : Int32) S2) fun r_15 =>
      some (r_15, S2)
    ) else (
    if x1 = (4 : Int32) then (
      bd1 (fX6_over 372 (2 : Int32) S2) fun r_18 =>
      some (r_18, S2)
    ) else (
    if x1 = (5 : Int32) then (
      bd1 (fX6_creditsOf 372 S2) fun r_21 =>
      some (r_21, S2)
    ) else (
      bd1 (fX6_over 372 (3 : Int32) S2) fun r_23 =>
      some (r_23, S2)
    ))))))
  ) else (
    some ((0 : Int32), S2)
  )
def fX6_about (x1 : Int32) (S : teS) : Option (Int32 × teS) :=
  bd1 (fX6_in ((x1).toInt64) (0 : Int64) (6 : Int64) S) fun r_1 =>
  if r_1 = 0 then (
    fX6_about_18 x1 S (1 : Int32)
  ) else (
    fX6_about_18 x1 S (0 : Int32)
  )
def fX6_detail_50 (r0 : Nat) (x1 : Int32) (x2 : Int32) : Nat → teS → Int32 → Int32 → Option Int32
  | 0, _, _, _ => none
  | n + 1, S1, v3, v4 =>
    chk (tein (0 : Int32) (teI r0)) <|
    if (S1 r0 (0 : Int32).toNatClampNeg) ≤ v4 then (
      some v3
    ) else (
      bd1 (fX6_fit r0 x1 v4 S1) fun r_14 =>
      if r_14 = 0 then (
        fX6_detail_50 r0 x1 x2 n S1 (v3 + (0 : Int32)) (v4 + (1 : Int32))
      ) else (
        fX6_detail_50 r0 x1 x2 n S1 (v3 + (1 : Int32)) (v4 + (1 : Int32))
      )
    )
def fX6_detail (r0 : Nat) (x1 : Int32) (x2 : Int32) (S : teS) : Option Int32 :=
  if x2 = (9 : Int32) then (
    bd1 (fX6_isFree r0 x1 S) fun r_6 =>
    if r_6 = 0 then (
      bd1 (fX6_at x1 S) fun r_9 =>
      chk (tein (r_9 + (9 : Int32)) (teI r0)) <|
      some (S r0 (r_9 + (9 : Int32)).toNatClampNeg)
    ) else (
      some (-9999 : Int32)
    )
  ) else (
    if (9 : Int32) ≤ x2 then (
      fX6_detail_50 r0 x1 x2 2000 S (0 : Int32) (0 : Int32)
    ) else (
      bd1 (fX6_at x1 S) fun r_3 =>
      chk (tein (r_3 + x2) (teI r0)) <|
      some (S r0 (r_3 + x2).toNatClampNeg)
    )
  )
def fX6_member_33 (x1 : Int32) (x2 : Int32) (S1 : teS) (y0 : Int32) : Option (Int32 × teS) :=
  bd2 (fX6_refused y0 S1) fun r_7 S2 =>
  if r_7 = 0 then (
    bd1 (fX6_detail 372 x1 x2 S2) fun r_10 =>
    some (r_10, S2)
  ) else (
    some ((0 : Int32), S2)
  )
def fX6_member (x1 : Int32) (x2 : Int32) (S : teS) : Option (Int32 × teS) :=
  bd1 (fX6_isMember 372 x1 S) fun r_1 =>
  if r_1 = 0 then (
    fX6_member_33 x1 x2 S (1 : Int32)
  ) else (
    bd1 (fX6_in ((x2).toInt64) (0 : Int64) (10 : Int64) S) fun r_4 =>
    if r_4 = 0 then (
      fX6_member_33 x1 x2 S (2 : Int32)
    ) else (
      fX6_member_33 x1 x2 S (0 : Int32)
    )
  )
def fX6_both_49 (x1 : Int32) (x2 : Int32) (x3 : Int32) (S1 : teS) (y0 : Int32) : Option (Int32 × teS) :=
  bd2 (fX6_refused y0 S1) fun r_11 S2 =>
  if r_11 = 0 then (
    if x3 = 0 then (
      bd1 (fX6_score 372 x1 x2 S2) fun r_25 =>
      some (r_25, S2)
    ) else (
      if x3 = (1 : Int32) then (
        bd1 (fX6_valueOf 372 x1 x2 S2) fun r_23 =>
        some (r_23, S2)
      ) else (
        if x3 = (2 : Int32) then (
          bd1 (fX6_fit 372 x1 x2 S2) fun r_20 =>
          if r_20 = 0 then (
            some ((0 : Int32), S2)
          ) else (
            some ((1 : Int32), S2)
          )
        ) else (
          bd1 (fX6_block 372 x1 x2 S2) fun r_17 =>
          if r_17 = 0 then (
            some ((0 : Int32), S2)
          ) else (
            some ((1 : Int32), S2)
          )
        )
      )
    )
  ) else (
    some ((0 : Int32), S2)
  )
def fX6_both (x1 : Int32) (x2 : Int32) (x3 : Int32) (S : teS) : Option (Int32 × teS) :=
  bd1 (fX6_isMember 372 x1 S) fun r_1 =>
  if r_1 = 0 then (
    fX6_both_49 x1 x2 x3 S (1 : Int32)
  ) else (
    bd1 (fX6_isMember 372 x2 S) fun r_4 =>
    if r_4 = 0 then (
      fX6_both_49 x1 x2 x3 S (1 : Int32)
    ) else (
      if x1 = x2 then (
        fX6_both_49 x1 x2 x3 S (2 : Int32)
      ) else (
        bd1 (fX6_in ((x3).toInt64) (0 : Int64) (3 : Int64) S) fun r_8 =>
        if r_8 = 0 then (
          fX6_both_49 x1 x2 x3 S (2 : Int32)
        ) else (
          fX6_both_49 x1 x2 x3 S (0 : Int32)
        )
      )
    )
  )
def fX6_note_49 (S1 : teS) : Option teS :=
  bd1 (fX6_copyPage 372 (0 : Int32) 374 ((92 : Int32) * (S1 369 3)) S1) fun S2 =>
  lt1 (teu S2 369 3 ((S2 369 3) + (1 : Int32))) fun S3 =>
  some S3
def fX6_note_11 : Nat → teS → Int32 → Option teS
  | 0, _, _ => none
  | n + 1, S1, v1 =>
    if (1196 : Int32) ≤ v1 then (
      lt1 (teu S1 369 3 ((S1 369 3) - (1 : Int32))) fun S2 =>
      fX6_note_49 S2
    ) else (
      chk (tein (v1 + (92 : Int32)) 1288) <|
      chk (tein v1 1288) <|
      lt1 (teu S1 374 v1.toNatClampNeg (S1 374 (v1 + (92 : Int32)).toNatClampNeg)) fun S3 =>
      fX6_note_11 n S3 (v1 + (1 : Int32))
    )
def fX6_note (S : teS) : Option teS :=
  if (S 369 3) = (14 : Int32) then (
    fX6_note_11 2000 S (0 : Int32)
  ) else (
    fX6_note_49 S
  )
def fX6_join_100 (x1 : Int32) (x2 : Int32) (x3 : Int32) : Nat → teS → Int32 → Int32 → Int32 → Option (Int32 × teS)
  | 0, _, _, _, _ => none
  | n + 1, S1, v5, v6, v7 =>
    if v7 < 0 then (
      chk (tein (v5 + (4 : Int32)) 92) <|
      lt1 (teu S1 372 (v5 + (4 : Int32)).toNatClampNeg x1) fun S2 =>
      chk (tein (v5 + (5 : Int32)) 92) <|
      lt1 (teu S2 372 (v5 + (5 : Int32)).toNatClampNeg (0 : Int32)) fun S3 =>
      chk (tein (v5 + (6 : Int32)) 92) <|
      lt1 (teu S3 372 (v5 + (6 : Int32)).toNatClampNeg x3) fun S4 =>
      chk (tein (v5 + (7 : Int32)) 92) <|
      lt1 (teu S4 372 (v5 + (7 : Int32)).toNatClampNeg (0 : Int32)) fun S5 =>
      chk (tein (0 : Int32) 92) <|
      bd1 (fX6_free 372 (S5 372 (0 : Int32).toNatClampNeg) S5) fun S6 =>
      lt1 (teu S6 372 (0 : Int32).toNatClampNeg ((S6 372 (0 : Int32).toNatClampNeg) + (1 : Int32))) fun S7 =>
      some (((S7 372 (0 : Int32).toNatClampNeg) - (1 : Int32)), S7)
    ) else (
      chk (tein (v5 + v7) 92) <|
      lt1 (teu S1 372 (v5 + v7).toNatClampNeg (v6 - v6 / (10 : Int32) * (10 : Int32))) fun S8 =>
      fX6_join_100 x1 x2 x3 n S8 v5 (v6 / (10 : Int32)) (v7 + (-1 : Int32))
    )
def fX6_join_71 (x1 : Int32) (x2 : Int32) (x3 : Int32) (S1 : teS) (y0 : Int32) : Option (Int32 × teS) :=
  bd2 (fX6_refused y0 S1) fun r_13 S2 =>
  if r_13 = 0 then (
    bd1 (fX6_note S2) fun S3 =>
    chk (tein (0 : Int32) 92) <|
    bd1 (fX6_at (S3 372 (0 : Int32).toNatClampNeg) S3) fun r_19 =>
    fX6_join_100 x1 x2 x3 2000 S3 r_19 x2 (3 : Int32)
  ) else (
    some ((0 : Int32), S2)
  )
def fX6_join_43 (x1 : Int32) (x2 : Int32) (x3 : Int32) (S1 : teS) (y0 : Int32) : Option (Int32 × teS) :=
  if y0 = 0 then (
    fX6_join_71 x1 x2 x3 S1 (1 : Int32)
  ) else (
    chk (tein (0 : Int32) 92) <|
    if (S1 372 (0 : Int32).toNatClampNeg) = (9 : Int32) then (
      fX6_join_71 x1 x2 x3 S1 (2 : Int32)
    ) else (
      fX6_join_71 x1 x2 x3 S1 (0 : Int32)
    )
  )
def fX6_join (x1 : Int32) (x2 : Int32) (x3 : Int32) (S : teS) : Option (Int32 × teS) :=
  bd1 (fX6_in ((x1).toInt64) (0 : Int64) (3 : Int64) S) fun r_1 =>
  if r_1 = 0 then (
    fX6_join_43 x1 x2 x3 S (0 : Int32)
  ) else (
    bd1 (fX6_in ((x2).toInt64) (0 : Int64) (9999 : Int64) S) fun r_4 =>
    if r_4 = 0 then (
      fX6_join_43 x1 x2 x3 S (0 : Int32)
    ) else (
      bd1 (fX6_in ((x3).toInt64) (-99 : Int64) (99 : Int64) S) fun r_7 =>
      if r_7 = 0 then (
        fX6_join_43 x1 x2 x3 S (0 : Int32)
      ) else (
        fX6_join_43 x1 x2 x3 S (1 : Int32)
      )
    )
  )
def fX6_leave_97 (x1 : Int32) : Nat → teS → Int32 → Int32 → Option (Int32 × teS)
  | 0, _, _, _ => none
  | n + 1, S1, v2, v3 =>
    chk (tein (0 : Int32) 92) <|
    if (S1 372 (0 : Int32).toNatClampNeg) ≤ v3 then (
      some (v2, S1)
    ) else (
      bd1 (fX6_at v3 S1) fun r_22 =>
      chk (tein (r_22 + (8 : Int32)) 92) <|
      bd1 (fX6_at v3 S1) fun r_25 =>
      if (S1 372 (r_22 + (8 : Int32)).toNatClampNeg) ≤ x1 then (
        chk (tein (r_25 + (8 : Int32)) 92) <|
        lt1 (teu S1 372 (r_25 + (8 : Int32)).toNatClampNeg (S1 372 (r_22 + (8 : Int32)).toNatClampNeg)) fun S2 =>
        fX6_leave_97 x1 n S2 v2 (v3 + (1 : Int32))
      ) else (
        chk (tein (r_25 + (8 : Int32)) 92) <|
        lt1 (teu S1 372 (r_25 + (8 : Int32)).toNatClampNeg ((S1 372 (r_22 + (8 : Int32)).toNatClampNeg) - (1 : Int32))) fun S3 =>
        fX6_leave_97 x1 n S3 v2 (v3 + (1 : Int32))
      )
    )
def fX6_leave_55 (x1 : Int32) : Nat → teS → Int32 → Int32 → Option (Int32 × teS)
  | 0, _, _, _ => none
  | n + 1, S1, v2, v3 =>
    if (92 : Int32) ≤ (v3 + (10 : Int32)) then (
      chk (tein (0 : Int32) 92) <|
      lt1 (teu S1 372 (0 : Int32).toNatClampNeg ((S1 372 (0 : Int32).toNatClampNeg) - (1 : Int32))) fun S2 =>
      fX6_leave_97 x1 2000 S2 v2 (0 : Int32)
    ) else (
      chk (tein (v3 + (10 : Int32)) 92) <|
      chk (tein v3 92) <|
      lt1 (teu S1 372 v3.toNatClampNeg (S1 372 (v3 + (10 : Int32)).toNatClampNeg)) fun S3 =>
      fX6_leave_55 x1 n S3 v2 (v3 + (1 : Int32))
    )
def fX6_leave_17 (x1 : Int32) (S1 : teS) (y0 : Int32) : Option (Int32 × teS) :=
  bd2 (fX6_refused y0 S1) fun r_4 S2 =>
  if r_4 = 0 then (
    bd1 (fX6_note S2) fun S3 =>
    bd1 (fX6_at x1 S3) fun r_9 =>
    chk (tein (r_9 + (6 : Int32)) 92) <|
    bd1 (fX6_partOn 372 x1 S3) fun S4 =>
    bd1 (fX6_at x1 S4) fun r_14 =>
    fX6_leave_55 x1 2000 S4 (S3 372 (r_9 + (6 : Int32)).toNatClampNeg) r_14
  ) else (
    some ((0 : Int32), S2)
  )
def fX6_leave (x1 : Int32) (S : teS) : Option (Int32 × teS) :=
  bd1 (fX6_isMember 372 x1 S) fun r_1 =>
  if r_1 = 0 then (
    fX6_leave_17 x1 S (1 : Int32)
  ) else (
    fX6_leave_17 x1 S (0 : Int32)
  )
def fX6_isTongue (x0 : Int32) (S : teS) : Option Int32 :=
  bd1 (fX6_in ((x0).toInt64) (0 : Int64) (3 : Int64) S) fun r_1 =>
  chk (decide (r_1 &&& 1 = r_1)) <|
  some r_1
def fX6_want_28 (x1 : Int32) (x2 : Int32) (S1 : teS) (y0 : Int32) : Option (Int32 × teS) :=
  bd2 (fX6_refused y0 S1) fun r_7 S2 =>
  if r_7 = 0 then (
    bd1 (fX6_note S2) fun S3 =>
    bd1 (fX6_at x1 S3) fun r_12 =>
    chk (tein (r_12 + (4 : Int32)) 92) <|
    bd1 (fX6_at x1 S3) fun r_15 =>
    chk (tein (r_15 + (4 : Int32)) 92) <|
    lt1 (teu S3 372 (r_15 + (4 : Int32)).toNatClampNeg x2) fun S4 =>
    bd1 (fX6_at x1 S4) fun r_18 =>
    chk (tein (r_18 + (5 : Int32)) 92) <|
    lt1 (teu S4 372 (r_18 + (5 : Int32)).toNatClampNeg (0 : Int32)) fun S5 =>
    bd1 (fX6_mend 372 x1 S5) fun S6 =>
    some ((S3 372 (r_12 + (4 : Int32)).toNatClampNeg), S6)
  ) else (
    some ((0 : Int32), S2)
  )
def fX6_want (x1 : Int32) (x2 : Int32) (S : teS) : Option (Int32 × teS) :=
  bd1 (fX6_isMember 372 x1 S) fun r_1 =>
  if r_1 = 0 then (
    fX6_want_28 x1 x2 S (1 : Int32)
  ) else (
    bd1 (fX6_isTongue x2 S) fun r_4 =>
    if r_4 = 0 then (
      fX6_want_28 x1 x2 S (2 : Int32)
    ) else (
      fX6_want_28 x1 x2 S (0 : Int32)
    )
  )
def fX6_testOn (r0 : Nat) (x1 : Int32) (x2 : Int32) (x3 : Int32) (S : teS) : Option (Int32 × teS) :=
  bd1 (fX6_at x1 S) fun r_1 =>
  chk (tein (r_1 + x2) (teI r0)) <|
  bd1 (fX6_at x1 S) fun r_4 =>
  chk (tein (r_4 + x2) (teI r0)) <|
  lt1 (teu S r0 (r_4 + x2).toNatClampNeg (x3 / (10 : Int32))) fun S1 =>
  bd1 (fX6_at x1 S1) fun r_7 =>
  bd1 (fX6_at x1 S1) fun r_9 =>
  chk (tein (r_9 + (4 : Int32)) (teI r0)) <|
  if (S1 r0 (r_9 + (4 : Int32)).toNatClampNeg) = x2 then (
    chk (tein (r_7 + (5 : Int32)) (teI r0)) <|
    lt1 (teu S1 r0 (r_7 + (5 : Int32)).toNatClampNeg ((x3 - x3 / (10 : Int32) * (10 : Int32)) * (2 : Int32))) fun S4 =>
    bd1 (fX6_mend r0 x1 S4) fun S5 =>
    some ((S r0 (r_1 + x2).toNatClampNeg), S5)
  ) else (
    bd1 (fX6_at x1 S1) fun r_13 =>
    chk (tein (r_13 + (5 : Int32)) (teI r0)) <|
    chk (tein (r_7 + (5 : Int32)) (teI r0)) <|
    lt1 (teu S1 r0 (r_7 + (5 : Int32)).toNatClampNeg (S1 r0 (r_13 + (5 : Int32)).toNatClampNeg)) fun S2 =>
    bd1 (fX6_mend r0 x1 S2) fun S3 =>
    some ((S r0 (r_1 + x2).toNatClampNeg), S3)
  )
def fX6_test_40 (x1 : Int32) (x2 : Int32) (x3 : Int32) (S1 : teS) (y0 : Int32) : Option (Int32 × teS) :=
  bd2 (fX6_refused y0 S1) fun r_10 S2 =>
  if r_10 = 0 then (
    bd1 (fX6_note S2) fun S3 =>
    bd2 (fX6_testOn 372 x1 x2 x3 S3) fun r_15 S4 =>
    some (r_15, S4)
  ) else (
    some ((0 : Int32), S2)
  )
def fX6_test (x1 : Int32) (x2 : Int32) (x3 : Int32) (S : teS) : Option (Int32 × teS) :=
  bd1 (fX6_isMember 372 x1 S) fun r_1 =>
  if r_1 = 0 then (
    fX6_test_40 x1 x2 x3 S (1 : Int32)
  ) else (
    bd1 (fX6_isTongue x2 S) fun r_4 =>
    if r_4 = 0 then (
      fX6_test_40 x1 x2 x3 S (2 : Int32)
    ) else (
      bd1 (fX6_in ((x3).toInt64) (0 : Int64) (99 : Int64) S) fun r_7 =>
      if r_7 = 0 then (
        fX6_test_40 x1 x2 x3 S (2 : Int32)
      ) else (
        fX6_test_40 x1 x2 x3 S (0 : Int32)
      )
    )
  )
def fX6_canPair (r0 : Nat) (x1 : Int32) (x2 : Int32) (S : teS) : Option Int32 :=
  bd1 (fX6_isFree r0 x1 S) fun r_1 =>
  if r_1 = 0 then (
    some (0 : Int32)
  ) else (
    bd1 (fX6_isFree r0 x2 S) fun r_4 =>
    if r_4 = 0 then (
      some (0 : Int32)
    ) else (
      bd1 (fX6_fit r0 x1 x2 S) fun r_7 =>
      if r_7 = 0 then (
        some (0 : Int32)
      ) else (
        some (1 : Int32)
      )
    )
  )
def fX6_pair_53 (x1 : Int32) (x2 : Int32) (S1 : teS) (y0 : Int32) : Option (Int32 × teS) :=
  bd2 (fX6_refused y0 S1) fun r_11 S2 =>
  if r_11 = 0 then (
    bd1 (fX6_note S2) fun S3 =>
    bd1 (fX6_pairOn 372 x1 x2 S3) fun S4 =>
    bd1 (fX6_valueOf 372 x1 x2 S4) fun r_18 =>
    some (r_18, S4)
  ) else (
    some ((0 : Int32), S2)
  )
def fX6_pair (x1 : Int32) (x2 : Int32) (S : teS) : Option (Int32 × teS) :=
  bd1 (fX6_isMember 372 x1 S) fun r_1 =>
  if r_1 = 0 then (
    fX6_pair_53 x1 x2 S (1 : Int32)
  ) else (
    bd1 (fX6_isMember 372 x2 S) fun r_4 =>
    if r_4 = 0 then (
      fX6_pair_53 x1 x2 S (1 : Int32)
    ) else (
      if x1 = x2 then (
        fX6_pair_53 x1 x2 S (2 : Int32)
      ) else (
        bd1 (fX6_canPair 372 x1 x2 S) fun r_8 =>
        if r_8 = 0 then (
          fX6_pair_53 x1 x2 S (3 : Int32)
        ) else (
          fX6_pair_53 x1 x2 S (0 : Int32)
        )
      )
    )
  )
def fX6_part_32 (x1 : Int32) (S1 : teS) (y0 : Int32) : Option (Int32 × teS) :=
  bd2 (fX6_refused y0 S1) fun r_7 S2 =>
  if r_7 = 0 then (
    bd1 (fX6_note S2) fun S3 =>
    bd1 (fX6_at x1 S3) fun r_12 =>
    chk (tein (r_12 + (8 : Int32)) 92) <|
    bd1 (fX6_partOn 372 x1 S3) fun S4 =>
    some ((S3 372 (r_12 + (8 : Int32)).toNatClampNeg), S4)
  ) else (
    some ((0 : Int32), S2)
  )
def fX6_part (x1 : Int32) (S : teS) : Option (Int32 × teS) :=
  bd1 (fX6_isMember 372 x1 S) fun r_1 =>
  if r_1 = 0 then (
    fX6_part_32 x1 S (1 : Int32)
  ) else (
    bd1 (fX6_isFree 372 x1 S) fun r_4 =>
    if r_4 = 0 then (
      fX6_part_32 x1 S (0 : Int32)
    ) else (
      fX6_part_32 x1 S (2 : Int32)
    )
  )
def fX6_match (S : teS) : Option (Int32 × teS) :=
  lt1 (teu S 369 0 (0 : Int32)) fun S1 =>
  bd1 (fX6_note S1) fun S2 =>
  bd2 (fX6_matchOn 372 S2) fun r_3 S3 =>
  some (r_3, S3)
def fX6_settle_18 (x1 : Int32) (S1 : teS) (y0 : Int32) : Option (Int32 × teS) :=
  bd2 (fX6_refused y0 S1) fun r_4 S2 =>
  if r_4 = 0 then (
    bd1 (fX6_note S2) fun S3 =>
    bd2 (fX6_settleOn 372 x1 S3) fun r_9 S4 =>
    some (r_9, S4)
  ) else (
    some ((0 : Int32), S2)
  )
def fX6_settle (x1 : Int32) (S : teS) : Option (Int32 × teS) :=
  bd1 (fX6_in ((x1).toInt64) (1 : Int64) (50 : Int64) S) fun r_1 =>
  if r_1 = 0 then (
    fX6_settle_18 x1 S (1 : Int32)
  ) else (
    fX6_settle_18 x1 S (0 : Int32)
  )
def fX6_isAbsent (x0 : Int32) (S : teS) : Option Int32 :=
  bd1 (fX6_in ((x0).toInt64) (0 : Int64) (511 : Int64) S) fun r_1 =>
  chk (decide (r_1 &&& 1 = r_1)) <|
  some r_1
def fX6_week_13 (x1 : Int32) (S1 : teS) (y0 : Int32) : Option (Int32 × teS) :=
  bd2 (fX6_refused y0 S1) fun r_4 S2 =>
  if r_4 = 0 then (
    bd1 (fX6_note S2) fun S3 =>
    bd1 (fX6_weekOn 372 x1 S3) fun S4 =>
    bd1 (fX6_over 372 (0 : Int32) S4) fun r_11 =>
    some (r_11, S4)
  ) else (
    some ((0 : Int32), S2)
  )
def fX6_week (x1 : Int32) (S : teS) : Option (Int32 × teS) :=
  bd1 (fX6_isAbsent x1 S) fun r_1 =>
  if r_1 = 0 then (
    fX6_week_13 x1 S (1 : Int32)
  ) else (
    fX6_week_13 x1 S (0 : Int32)
  )
def fX6_undo_13 (S1 : teS) (y0 : Int32) : Option (Int32 × teS) :=
  bd2 (fX6_refused y0 S1) fun r_2 S2 =>
  if r_2 = 0 then (
    lt1 (teu S2 369 3 ((S2 369 3) - (1 : Int32))) fun S3 =>
    bd1 (fX6_copyPage 374 ((92 : Int32) * (S3 369 3)) 372 (0 : Int32) S3) fun S4 =>
    some ((S4 369 3), S4)
  ) else (
    some ((0 : Int32), S2)
  )
def fX6_undo (S : teS) : Option (Int32 × teS) :=
  if (S 369 3) = 0 then (
    fX6_undo_13 S (1 : Int32)
  ) else (
    fX6_undo_13 S (0 : Int32)
  )
def fX6_blocking_10 (x1 : Int32) (x2 : Int32) (S1 : teS) (y0 : Int32) : Option (Int32 × teS) :=
  bd2 (fX6_refused y0 S1) fun r_2 S2 =>
  if r_2 = 0 then (
    bd1 (fX6_blockAt 372 x1 S2) fun r_5 =>
    if r_5 = (-9999 : Int32) then (
      some ((-9999 : Int32), S2)
    ) else (
      if x2 = 0 then (
        some ((r_5 / (10 : Int32)), S2)
      ) else (
        some ((r_5 - r_5 / (10 : Int32) * (10 : Int32)), S2)
      )
    )
  ) else (
    some ((0 : Int32), S2)
  )
def fX6_blocking (x1 : Int32) (x2 : Int32) (S : teS) : Option (Int32 × teS) :=
  if x1 < 0 then (
    fX6_blocking_10 x1 x2 S (1 : Int32)
  ) else (
    fX6_blocking_10 x1 x2 S (0 : Int32)
  )
def fX6_bestPartner_77 (x1 : Int32) (x2 : Int32) (q32 : teS → Int32 → Int32 → Option (Int32 × teS)) (S1 : teS) (v3 : Int32) (v4 : Int32) (y0 : Int32) : Option (Int32 × teS) :=
  if y0 = 0 then (
    q32 S1 v3 (v4 + (1 : Int32))
  ) else (
    if v3 = (-9999 : Int32) then (
      q32 S1 v4 (v4 + (1 : Int32))
    ) else (
      bd1 (fX6_score 372 x1 v4 S1) fun r_21 =>
      bd1 (fX6_score 372 x1 v3 S1) fun r_23 =>
      if r_21 ≤ r_23 then (
        q32 S1 v3 (v4 + (1 : Int32))
      ) else (
        q32 S1 v4 (v4 + (1 : Int32))
      )
    )
  )
def fX6_bestPartner_32 (x1 : Int32) (x2 : Int32) : Nat → teS → Int32 → Int32 → Option (Int32 × teS)
  | 0, _, _, _ => none
  | n + 1, S1, v3, v4 =>
    chk (tein (0 : Int32) 92) <|
    if (S1 372 (0 : Int32).toNatClampNeg) ≤ v4 then (
      some (v3, S1)
    ) else (
      bd1 (fX6_fit 372 x1 v4 S1) fun r_12 =>
      if r_12 = 0 then (
        fX6_bestPartner_77 x1 x2 (fX6_bestPartner_32 x1 x2 n) S1 v3 v4 (0 : Int32)
      ) else (
        if x2 = 0 then (
          fX6_bestPartner_77 x1 x2 (fX6_bestPartner_32 x1 x2 n) S1 v3 v4 (1 : Int32)
        ) else (
          bd1 (fX6_isFree 372 v4 S1) fun r_16 =>
          if r_16 = 0 then (
            fX6_bestPartner_77 x1 x2 (fX6_bestPartner_32 x1 x2 n) S1 v3 v4 (0 : Int32)
          ) else (
            fX6_bestPartner_77 x1 x2 (fX6_bestPartner_32 x1 x2 n) S1 v3 v4 (1 : Int32)
          )
        )
      )
    )
def fX6_bestPartner (x1 : Int32) (x2 : Int32) (S : teS) : Option (Int32 × teS) :=
  bd1 (fX6_isMember 372 x1 S) fun r_1 =>
  if r_1 = 0 then (
    bd2 (fX6_refused (1 : Int32) S) fun r_4 S1 =>
    if r_4 = 0 then (
      fX6_bestPartner_32 x1 x2 2000 S1 (-9999 : Int32) (0 : Int32)
    ) else (
      some ((0 : Int32), S1)
    )
  ) else (
    bd2 (fX6_refused (0 : Int32) S) fun r_7 S2 =>
    if r_7 = 0 then (
      fX6_bestPartner_32 x1 x2 2000 S2 (-9999 : Int32) (0 : Int32)
    ) else (
      some ((0 : Int32), S2)
    )
  )
def fX6_best_16 (x1 : Int32) (S1 : teS) (y0 : Int32) : Option (Int32 × teS) :=
  bd2 (fX6_refused y0 S1) fun r_4 S2 =>
  if r_4 = 0 then (
    bd1 (fX6_laySets 372 S2) fun S3 =>
    chk (tein (0 : Int32) 92) <|
    if x1 = 0 then (
      chk (tein (((1 : Int32) <<< ((S3 372 (0 : Int32).toNatClampNeg) &&& 31)) - (1 : Int32)) 512) <|
      some ((S3 377 (((1 : Int32) <<< ((S3 372 (0 : Int32).toNatClampNeg) &&& 31)) - (1 : Int32)).toNatClampNeg), S3)
    ) else (
      chk (tein (((1 : Int32) <<< ((S3 372 (0 : Int32).toNatClampNeg) &&& 31)) - (1 : Int32)) 512) <|
      some ((S3 378 (((1 : Int32) <<< ((S3 372 (0 : Int32).toNatClampNeg) &&& 31)) - (1 : Int32)).toNatClampNeg), S3)
    )
  ) else (
    some ((0 : Int32), S2)
  )
def fX6_best (x1 : Int32) (S : teS) : Option (Int32 × teS) :=
  bd1 (fX6_in ((x1).toInt64) (0 : Int64) (1 : Int64) S) fun r_1 =>
  if r_1 = 0 then (
    fX6_best_16 x1 S (1 : Int32)
  ) else (
    fX6_best_16 x1 S (0 : Int32)
  )
def fX6_missedMost_127 (q33 : teS → Int32 → Int32 → Int32 → Int32 → Option (Int32 × teS)) (S1 : teS) (v1 : Int32) (v3 : Int32) (v4 : Int32) (v5 : Int32) (v6 : Int32) (y0 : Int32) : Option (Int32 × teS) :=
  if v6 = 0 then (
    q33 S1 v1 y0 v3 (v4 + (1 : Int32))
  ) else (
    q33 S1 v1 y0 v5 (v4 + (1 : Int32))
  )
def fX6_missedMost_109 (q33 : teS → Int32 → Int32 → Int32 → Int32 → Option (Int32 × teS)) (S1 : teS) (v1 : Int32) (v2 : Int32) (v3 : Int32) (v4 : Int32) (v5 : Int32) : Option (Int32 × teS) :=
  if (1 : Int32) = 0 then (
    fX6_missedMost_127 q33 S1 v1 v3 v4 v5 (1 : Int32) v2
  ) else (
    fX6_missedMost_127 q33 S1 v1 v3 v4 v5 (1 : Int32) v4
  )
def fX6_missedMost_33 : Nat → teS → Int32 → Int32 → Int32 → Int32 → Option (Int32 × teS)
  | 0, _, _, _, _, _ => none
  | n + 1, S1, v1, v2, v3, v4 =>
    chk (tein (0 : Int32) 92) <|
    if (S1 372 (0 : Int32).toNatClampNeg) ≤ v4 then (
      some (v2, S1)
    ) else (
      if v2 = (-9999 : Int32) then (
        fX6_missedMost_109 (fX6_missedMost_33 n) S1 v1 v2 v3 v4 (v1 &&& (((1 : Int32) <<< (v4 &&& 31)) ^^^ (-1 : Int32)))
      ) else (
        chk (tein (v1 &&& (((1 : Int32) <<< (v4 &&& 31)) ^^^ (-1 : Int32))) 512) <|
        chk (tein v3 512) <|
        if (S1 377 (v1 &&& (((1 : Int32) <<< (v4 &&& 31)) ^^^ (-1 : Int32))).toNatClampNeg) < (S1 377 v3.toNatClampNeg) then (
          fX6_missedMost_109 (fX6_missedMost_33 n) S1 v1 v2 v3 v4 (v1 &&& (((1 : Int32) <<< (v4 &&& 31)) ^^^ (-1 : Int32)))
        ) else (
          if (S1 377 (v1 &&& (((1 : Int32) <<< (v4 &&& 31)) ^^^ (-1 : Int32))).toNatClampNeg) = (S1 377 v3.toNatClampNeg) then (
            if (S1 378 v3.toNatClampNeg) ≤ (S1 378 (v1 &&& (((1 : Int32) <<< (v4 &&& 31)) ^^^ (-1 : Int32))).toNatClampNeg) then (
              if (0 : Int32) = 0 then (
                fX6_missedMost_127 (fX6_missedMost_33 n) S1 v1 v3 v4 (v1 &&& (((1 : Int32) <<< (v4 &&& 31)) ^^^ (-1 : Int32))) (0 : Int32) v2
              ) else (
                fX6_missedMost_127 (fX6_missedMost_33 n) S1 v1 v3 v4 (v1 &&& (((1 : Int32) <<< (v4 &&& 31)) ^^^ (-1 : Int32))) (0 : Int32) v4
              )
            ) else (
              fX6_missedMost_109 (fX6_missedMost_33 n) S1 v1 v2 v3 v4 (v1 &&& (((1 : Int32) <<< (v4 &&& 31)) ^^^ (-1 : Int32)))
            )
          ) else (
            if (0 : Int32) = 0 then (
              fX6_missedMost_127 (fX6_missedMost_33 n) S1 v1 v3 v4 (v1 &&& (((1 : Int32) <<< (v4 &&& 31)) ^^^ (-1 : Int32))) (0 : Int32) v2
            ) else (
              fX6_missedMost_127 (fX6_missedMost_33 n) S1 v1 v3 v4 (v1 &&& (((1 : Int32) <<< (v4 &&& 31)) ^^^ (-1 : Int32))) (0 : Int32) v4
            )
          )
        )
      )
    )
def fX6_missedMost (S : teS) : Option (Int32 × teS) :=
  lt1 (teu S 369 0 (0 : Int32)) fun S1 =>
  bd1 (fX6_laySets 372 S1) fun S2 =>
  chk (tein (0 : Int32) 92) <|
  fX6_missedMost_33 2000 S2 (((1 : Int32) <<< ((S2 372 (0 : Int32).toNatClampNeg) &&& 31)) - (1 : Int32)) (-9999 : Int32) (0 : Int32) (0 : Int32)
def fX6_ahead_77 (x1 : Int32) (x2 : Int32) (x3 : Int32) (x4 : Int32) : Nat → teS → Int32 → Option (Int32 × teS)
  | 0, _, _ => none
  | n + 1, S1, v5 =>
    if x2 ≤ v5 then (
      bd1 (fX6_detail 373 x1 x4 S1) fun r_19 =>
      some (r_19, S1)
    ) else (
      bd1 (fX6_weekOn 373 x3 S1) fun S2 =>
      fX6_ahead_77 x1 x2 x3 x4 n S2 (v5 + (1 : Int32))
    )
def fX6_ahead_53 (x1 : Int32) (x2 : Int32) (x3 : Int32) (x4 : Int32) (S1 : teS) (y0 : Int32) : Option (Int32 × teS) :=
  bd2 (fX6_refused y0 S1) fun r_13 S2 =>
  if r_13 = 0 then (
    bd1 (fX6_copyPage 372 (0 : Int32) 373 (0 : Int32) S2) fun S3 =>
    fX6_ahead_77 x1 x2 x3 x4 2000 S3 (0 : Int32)
  ) else (
    some ((0 : Int32), S2)
  )
def fX6_ahead (x1 : Int32) (x2 : Int32) (x3 : Int32) (x4 : Int32) (S : teS) : Option (Int32 × teS) :=
  bd1 (fX6_isMember 372 x1 S) fun r_1 =>
  if r_1 = 0 then (
    fX6_ahead_53 x1 x2 x3 x4 S (1 : Int32)
  ) else (
    bd1 (fX6_in ((x2).toInt64) (0 : Int64) (60 : Int64) S) fun r_4 =>
    if r_4 = 0 then (
      fX6_ahead_53 x1 x2 x3 x4 S (2 : Int32)
    ) else (
      bd1 (fX6_isAbsent x3 S) fun r_7 =>
      if r_7 = 0 then (
        fX6_ahead_53 x1 x2 x3 x4 S (2 : Int32)
      ) else (
        bd1 (fX6_in ((x4).toInt64) (0 : Int64) (10 : Int64) S) fun r_10 =>
        if r_10 = 0 then (
          fX6_ahead_53 x1 x2 x3 x4 S (2 : Int32)
        ) else (
          fX6_ahead_53 x1 x2 x3 x4 S (0 : Int32)
        )
      )
    )
  )
def fX6_levelAfter_56 (x1 : Int32) (x2 : Int32) : Nat → teS → Int32 → Option (Int32 × teS)
  | 0, _, _ => none
  | n + 1, S1, v3 =>
    if (100 : Int32) < v3 then (
      some ((-9999 : Int32), S1)
    ) else (
      bd1 (fX6_at x1 S1) fun r_13 =>
      bd1 (fX6_at x1 S1) fun r_15 =>
      chk (tein (r_15 + (4 : Int32)) 92) <|
      chk (tein (r_13 + (S1 373 (r_15 + (4 : Int32)).toNatClampNeg)) 92) <|
      if (S1 373 (r_13 + (S1 373 (r_15 + (4 : Int32)).toNatClampNeg)).toNatClampNeg) < x2 then (
        bd2 (fX6_matchOn 373 S1) fun r_20 S2 =>
        bd1 (fX6_weekOn 373 (0 : Int32) S2) fun S3 =>
        fX6_levelAfter_56 x1 x2 n S3 (v3 + (1 : Int32))
      ) else (
        some (v3, S1)
      )
    )
def fX6_levelAfter_33 (x1 : Int32) (x2 : Int32) (S1 : teS) (y0 : Int32) : Option (Int32 × teS) :=
  bd2 (fX6_refused y0 S1) fun r_7 S2 =>
  if r_7 = 0 then (
    bd1 (fX6_copyPage 372 (0 : Int32) 373 (0 : Int32) S2) fun S3 =>
    fX6_levelAfter_56 x1 x2 2000 S3 (0 : Int32)
  ) else (
    some ((0 : Int32), S2)
  )
def fX6_levelAfter (x1 : Int32) (x2 : Int32) (S : teS) : Option (Int32 × teS) :=
  bd1 (fX6_isMember 372 x1 S) fun r_1 =>
  if r_1 = 0 then (
    fX6_levelAfter_33 x1 x2 S (1 : Int32)
  ) else (
    bd1 (fX6_in ((x2).toInt64) (0 : Int64) (9 : Int64) S) fun r_4 =>
    if r_4 = 0 then (
      fX6_levelAfter_33 x1 x2 S (2 : Int32)
    ) else (
      fX6_levelAfter_33 x1 x2 S (0 : Int32)
    )
  )
def fX6_partsAfter_66 (x1 : Int32) (x2 : Int32) : Nat → teS → Int32 → Option (Int32 × teS)
  | 0, _, _ => none
  | n + 1, S1, v3 =>
    if (100 : Int32) < v3 then (
      some ((-9999 : Int32), S1)
    ) else (
      bd1 (fX6_isFree 373 x1 S1) fun r_16 =>
      if r_16 = 0 then (
        bd1 (fX6_weekOn 373 x2 S1) fun S2 =>
        fX6_partsAfter_66 x1 x2 n S2 (v3 + (1 : Int32))
      ) else (
        some (v3, S1)
      )
    )
def fX6_partsAfter_43 (x1 : Int32) (x2 : Int32) (S1 : teS) (y0 : Int32) : Option (Int32 × teS) :=
  bd2 (fX6_refused y0 S1) fun r_10 S2 =>
  if r_10 = 0 then (
    bd1 (fX6_copyPage 372 (0 : Int32) 373 (0 : Int32) S2) fun S3 =>
    fX6_partsAfter_66 x1 x2 2000 S3 (0 : Int32)
  ) else (
    some ((0 : Int32), S2)
  )
def fX6_partsAfter (x1 : Int32) (x2 : Int32) (S : teS) : Option (Int32 × teS) :=
  bd1 (fX6_isMember 372 x1 S) fun r_1 =>
  if r_1 = 0 then (
    fX6_partsAfter_43 x1 x2 S (1 : Int32)
  ) else (
    bd1 (fX6_isAbsent x2 S) fun r_4 =>
    if r_4 = 0 then (
      fX6_partsAfter_43 x1 x2 S (2 : Int32)
    ) else (
      bd1 (fX6_isFree 372 x1 S) fun r_7 =>
      if r_7 = 0 then (
        fX6_partsAfter_43 x1 x2 S (0 : Int32)
      ) else (
        fX6_partsAfter_43 x1 x2 S (3 : Int32)
      )
    )
  )
def fX6_does_31 (x1 : Int32) (x2 : Int32) (x3 : Int32) (x4 : Int32) (S1 : teS) (v5 : Int32) (y0 : Int32) : Option (Int32 × teS) :=
  if x1 = (1 : Int32) then (
    if y0 = 0 then (
      some ((0 : Int32), S1)
    ) else (
      if x4 = 0 then (
        if x2 = x3 then (
          some ((0 : Int32), S1)
        ) else (
          bd1 (fX6_canPair 373 x2 x3 S1) fun r_11 =>
          if r_11 = 0 then (
            some ((0 : Int32), S1)
          ) else (
            bd1 (fX6_pairOn 373 x2 x3 S1) fun S2 =>
            some ((1 : Int32), S2)
          )
        )
      ) else (
        some ((0 : Int32), S1)
      )
    )
  ) else (
  if x1 = (2 : Int32) then (
    if v5 = 0 then (
      some ((0 : Int32), S1)
    ) else (
      if (((10 : Int32) * x3) + x4) = 0 then (
        bd1 (fX6_isFree 373 x2 S1) fun r_19 =>
        if r_19 = 0 then (
          bd1 (fX6_partOn 373 x2 S1) fun S3 =>
          some ((1 : Int32), S3)
        ) else (
          some ((0 : Int32), S1)
        )
      ) else (
        some ((0 : Int32), S1)
      )
    )
  ) else (
  if x1 = (3 : Int32) then (
    if x2 = 0 then (
      if (((10 : Int32) * x3) + x4) = 0 then (
        bd2 (fX6_matchOn 373 S1) fun r_27 S4 =>
        if r_27 < 0 then (
          some ((0 : Int32), S4)
        ) else (
          some ((1 : Int32), S4)
        )
      ) else (
        some ((0 : Int32), S1)
      )
    ) else (
      some ((0 : Int32), S1)
    )
  ) else (
  if x1 = (4 : Int32) then (
    if x2 = 0 then (
      bd1 (fX6_in (((((10 : Int32) * x3) + x4)).toInt64) (1 : Int64) (50 : Int64) S1) fun r_32 =>
      if r_32 = 0 then (
        some ((0 : Int32), S1)
      ) else (
        bd2 (fX6_settleOn 373 (((10 : Int32) * x3) + x4) S1) fun r_35 S5 =>
        if r_35 < 0 then (
          some ((0 : Int32), S5)
        ) else (
          some ((1 : Int32), S5)
        )
      )
    ) else (
      some ((0 : Int32), S1)
    )
  ) else (
  if x1 = (5 : Int32) then (
    bd1 (fX6_isAbsent (((100 : Int32) * x2) + (((10 : Int32) * x3) + x4)) S1) fun r_39 =>
    if r_39 = 0 then (
      some ((0 : Int32), S1)
    ) else (
      bd1 (fX6_weekOn 373 (((100 : Int32) * x2) + (((10 : Int32) * x3) + x4)) S1) fun S6 =>
      some ((1 : Int32), S6)
    )
  ) else (
  if x1 = (6 : Int32) then (
    if v5 = 0 then (
      some ((0 : Int32), S1)
    ) else (
      bd1 (fX6_isTongue x3 S1) fun r_46 =>
      if r_46 = 0 then (
        some ((0 : Int32), S1)
      ) else (
        bd2 (fX6_testOn 373 x2 x3 ((10 : Int32) * x4) S1) fun r_49 S7 =>
        if r_49 < 0 then (
          some ((0 : Int32), S7)
        ) else (
          some ((1 : Int32), S7)
        )
      )
    )
  ) else (
  if x1 = (7 : Int32) then (
    if y0 = 0 then (
      some ((0 : Int32), S1)
    ) else (
      if x4 = 0 then (
        bd1 (fX6_at x2 S1) fun r_55 =>
        chk (tein (r_55 + (8 : Int32)) 92) <|
        if (S1 373 (r_55 + (8 : Int32)).toNatClampNeg) = x3 then (
          some ((1 : Int32), S1)
        ) else (
          some ((0 : Int32), S1)
        )
      ) else (
        some ((0 : Int32), S1)
      )
    )
  ) else (
  if x1 = (8 : Int32) then (
    if x2 = 0 then (
      if x3 = 0 then (
        bd1 (fX6_over 373 (0 : Int32) S1) fun r_62 =>
        if r_62 = x4 then (
          some ((1 : Int32), S1)
        ) else (
          some ((0 : Int32), S1)
        )
      ) else (
        some ((0 : Int32), S1)
      )
    ) else (
      some ((0 : Int32), S1)
    )
  ) else (
  if x1 = (9 : Int32) then (
    if v5 = 0 then (
      some ((0 : Int32), S1)
    ) else (
      bd1 (fX6_isTongue x3 S1) fun r_67 =>
      if r_67 = 0 then (
        some ((0 : Int32), S1)
      ) else (
        bd1 (fX6_at x2 S1) fun r_70 =>
        chk (tein (r_70 + x3) 92) <|
        if (S1 373 (r_70 + x3).toNatClampNeg) = x4 then (
          some ((1 : Int32), S1)
        ) else (
          some ((0 : Int32), S1)
        )
      )
    )
  ) else (
    some ((0 : Int32), S1)
  )))))))))
def fX6_does (x1 : Int32) (x2 : Int32) (x3 : Int32) (x4 : Int32) (S : teS) : Option (Int32 × teS) :=
  bd1 (fX6_isMember 373 x2 S) fun r_1 =>
  if r_1 = 0 then (
    fX6_does_31 x1 x2 x3 x4 S r_1 (0 : Int32)
  ) else (
    bd1 (fX6_isMember 373 x3 S) fun r_4 =>
    if r_4 = 0 then (
      fX6_does_31 x1 x2 x3 x4 S r_1 (0 : Int32)
    ) else (
      fX6_does_31 x1 x2 x3 x4 S r_1 (1 : Int32)
    )
  )
def fX6_runScript_89 (x1 : Int32) (x2 : Int64) : Nat → teS → Int64 → Int64 → Int32 → Option (Int32 × teS)
  | 0, _, _, _, _ => none
  | n + 1, S1, v4, v6, v8 =>
    if x1 ≤ v8 then (
      some ((-9999 : Int32), S1)
    ) else (
      chk (decide (¬ (v4 / (10000 : Int64)) = 0)) <|
      chk (decide (¬ (v4 / (10000 : Int64)) = 0)) <|
      bd2 (fX6_does (((v6 / (v4 / (10000 : Int64)))).toInt32 / (1000 : Int32)) ((((v6 / (v4 / (10000 : Int64)))).toInt32 / (100 : Int32)) - (((v6 / (v4 / (10000 : Int64)))).toInt32 / (100 : Int32)) / (10 : Int32) * (10 : Int32)) ((((v6 / (v4 / (10000 : Int64)))).toInt32 / (10 : Int32)) - (((v6 / (v4 / (10000 : Int64)))).toInt32 / (10 : Int32)) / (10 : Int32) * (10 : Int32)) (((v6 / (v4 / (10000 : Int64)))).toInt32 - ((v6 / (v4 / (10000 : Int64)))).toInt32 / (10 : Int32) * (10 : Int32)) S1) fun r_17 S2 =>
      if r_17 = 0 then (
        some (v8, S2)
      ) else (
        fX6_runScript_89 x1 x2 n S2 (v4 / (10000 : Int64)) (v6 - v6 / (v4 / (10000 : Int64)) * (v4 / (10000 : Int64))) (v8 + (1 : Int32))
      )
    )
def fX6_runScript_62 (x1 : Int32) (x2 : Int64) (S1 : teS) (v4 : Int64) (y0 : Int32) : Option (Int32 × teS) :=
  bd2 (fX6_refused y0 S1) fun r_9 S2 =>
  if r_9 = 0 then (
    bd1 (fX6_copyPage 372 (0 : Int32) 373 (0 : Int32) S2) fun S3 =>
    fX6_runScript_89 x1 x2 2000 S3 v4 x2 (0 : Int32)
  ) else (
    some ((0 : Int32), S2)
  )
def fX6_runScript_32 (x1 : Int32) (x2 : Int64) (S1 : teS) (v4 : Int64) : Option (Int32 × teS) :=
  bd1 (fX6_in ((x1).toInt64) (1 : Int64) (4 : Int64) S1) fun r_3 =>
  if r_3 = 0 then (
    fX6_runScript_62 x1 x2 S1 v4 (1 : Int32)
  ) else (
    bd1 (fX6_in x2 (0 : Int64) (v4 - (1 : Int64)) S1) fun r_6 =>
    if r_6 = 0 then (
      fX6_runScript_62 x1 x2 S1 v4 (1 : Int32)
    ) else (
      fX6_runScript_62 x1 x2 S1 v4 (0 : Int32)
    )
  )
def fX6_runScript_6 (x1 : Int32) (x2 : Int64) : Nat → teS → Int64 → Int32 → Option (Int32 × teS)
  | 0, _, _, _ => none
  | n + 1, S1, v4, v6 =>
    if x1 ≤ v6 then (
      fX6_runScript_32 x1 x2 S1 v4
    ) else (
      if (4 : Int32) ≤ v6 then (
        fX6_runScript_32 x1 x2 S1 v4
      ) else (
        fX6_runScript_6 x1 x2 n S1 (v4 * (10000 : Int64)) (v6 + (1 : Int32))
      )
    )
def fX6_runScript (x1 : Int32) (x2 : Int64) (S : teS) : Option (Int32 × teS) :=
  fX6_runScript_6 x1 x2 2000 S (1 : Int64) (0 : Int32)
def fX6_simulate_89 (x1 : Int64) (x3 : Int32) (q45 : teS → Int64 → Int32 → Option (Int32 × teS)) (S1 : teS) (v4 : Int64) (v6 : Int32) (v7 : Int32) (y0 : Int32) : Option (Int32 × teS) :=
  if y0 < 0 then (
    bd1 (fX6_weekOn 373 (0 : Int32) S1) fun S2 =>
    q45 S2 v4 (v6 + (1 : Int32))
  ) else (
    bd1 (fX6_weekOn 373 ((v7 / (4 : Int32)) - (v7 / (4 : Int32)) / (512 : Int32) * (512 : Int32)) S1) fun S3 =>
    q45 S3 v4 (v6 + (1 : Int32))
  )
def fX6_simulate_45 (x1 : Int64) (x3 : Int32) : Nat → teS → Int64 → Int32 → Option (Int32 × teS)
  | 0, _, _, _ => none
  | n + 1, S1, v4, v6 =>
    if x3 ≤ v6 then (
      bd1 (fX6_creditsOf 373 S1) fun r_10 =>
      some (r_10, S1)
    ) else (
      if ((((((v4 * (6364136223846793005 : Int64)) + (1442695040888963407 : Int64))).toUInt64 >>> (((33 : Int32)).toInt64.toUInt64 &&& Int64.toUInt64 63)).toInt64).toInt32 - (((((v4 * (6364136223846793005 : Int64)) + (1442695040888963407 : Int64))).toUInt64 >>> (((33 : Int32)).toInt64.toUInt64 &&& Int64.toUInt64 63)).toInt64).toInt32 / (4 : Int32) * (4 : Int32)) = 0 then (
        bd2 (fX6_matchOn 373 S1) fun r_13 S2 =>
        fX6_simulate_89 x1 x3 (fX6_simulate_45 x1 x3 n) S2 ((v4 * (6364136223846793005 : Int64)) + (1442695040888963407 : Int64)) v6 (((((v4 * (6364136223846793005 : Int64)) + (1442695040888963407 : Int64))).toUInt64 >>> (((33 : Int32)).toInt64.toUInt64 &&& Int64.toUInt64 63)).toInt64).toInt32 r_13
      ) else (
        fX6_simulate_89 x1 x3 (fX6_simulate_45 x1 x3 n) S1 ((v4 * (6364136223846793005 : Int64)) + (1442695040888963407 : Int64)) v6 (((((v4 * (6364136223846793005 : Int64)) + (1442695040888963407 : Int64))).toUInt64 >>> (((33 : Int32)).toInt64.toUInt64 &&& Int64.toUInt64 63)).toInt64).toInt32 (0 : Int32)
      )
    )
def fX6_simulate_18 (x1 : Int64) (x3 : Int32) (S1 : teS) (y0 : Int32) : Option (Int32 × teS) :=
  bd2 (fX6_refused y0 S1) fun r_4 S2 =>
  if r_4 = 0 then (
    bd1 (fX6_copyPage 372 (0 : Int32) 373 (0 : Int32) S2) fun S3 =>
    fX6_simulate_45 x1 x3 2000 S3 x1 (0 : Int32)
  ) else (
    some ((0 : Int32), S2)
  )
def fX6_simulate (x1 : Int64) (x3 : Int32) (S : teS) : Option (Int32 × teS) :=
  bd1 (fX6_in ((x3).toInt64) (1 : Int64) (60 : Int64) S) fun r_1 =>
  if r_1 = 0 then (
    fX6_simulate_18 x1 x3 S (1 : Int32)
  ) else (
    fX6_simulate_18 x1 x3 S (0 : Int32)
  )
def fX6_save_16 (x1 : Int32) (S1 : teS) (y0 : Int32) : Option (Int32 × teS) :=
  bd2 (fX6_refused y0 S1) fun r_4 S2 =>
  if r_4 = 0 then (
    chk (tein x1 2) <|
    lt1 (teu S2 376 x1.toNatClampNeg (vp_nar .boolean (1 : Int32))) fun S3 =>
    bd1 (fX6_copyPage 372 (0 : Int32) 375 ((92 : Int32) * x1) S3) fun S4 =>
    chk (tein (1 : Int32) 92) <|
    some ((S4 372 (1 : Int32).toNatClampNeg), S4)
  ) else (
    some ((0 : Int32), S2)
  )
def fX6_save (x1 : Int32) (S : teS) : Option (Int32 × teS) :=
  bd1 (fX6_in ((x1).toInt64) (0 : Int64) (1 : Int64) S) fun r_1 =>
  if r_1 = 0 then (
    fX6_save_16 x1 S (1 : Int32)
  ) else (
    fX6_save_16 x1 S (0 : Int32)
  )
def fX6_restore_29 (x1 : Int32) (S1 : teS) (y0 : Int32) : Option (Int32 × teS) :=
  bd2 (fX6_refused y0 S1) fun r_6 S2 =>
  if r_6 = 0 then (
    bd1 (fX6_copyPage 375 ((92 : Int32) * x1) 372 (0 : Int32) S2) fun S3 =>
    lt1 (teu S3 369 3 (0 : Int32)) fun S4 =>
    chk (tein (1 : Int32) 92) <|
    some ((S4 372 (1 : Int32).toNatClampNeg), S4)
  ) else (
    some ((0 : Int32), S2)
  )
def fX6_restore (x1 : Int32) (S : teS) : Option (Int32 × teS) :=
  bd1 (fX6_in ((x1).toInt64) (0 : Int64) (1 : Int64) S) fun r_1 =>
  if r_1 = 0 then (
    fX6_restore_29 x1 S (1 : Int32)
  ) else (
    chk (tein x1 2) <|
    if (S 376 x1.toNatClampNeg) = 0 then (
      fX6_restore_29 x1 S (2 : Int32)
    ) else (
      fX6_restore_29 x1 S (0 : Int32)
    )
  )
end
section
theorem dX3_init_0 : decode cX3_init 0 = .ok (.aload_n 0, 1) := by decide +kernel
theorem dX3_init_1 : decode cX3_init 1 = .ok (.invokespecial 3, 3) := by decide +kernel
theorem dX3_init_4 : decode cX3_init 4 = .ok (.aload_n 0, 1) := by decide +kernel
theorem dX3_init_5 : decode cX3_init 5 = .ok (.iconst 4, 1) := by decide +kernel
theorem dX3_init_6 : decode cX3_init 6 = .ok (.newarray .int, 2) := by decide +kernel
theorem dX3_init_8 : decode cX3_init 8 = .ok (.putfield 9, 3) := by decide +kernel
theorem dX3_init_11 : decode cX3_init 11 = .ok (.return_, 1) := by decide +kernel
theorem dX3_copyFrom_0 : decode cX3_copyFrom 0 = .ok (.aload_n 1, 1) := by decide +kernel
theorem dX3_copyFrom_1 : decode cX3_copyFrom 1 = .ok (.getfield 9, 3) := by decide +kernel
theorem dX3_copyFrom_4 : decode cX3_copyFrom 4 = .ok (.iconst 0, 1) := by decide +kernel
theorem dX3_copyFrom_5 : decode cX3_copyFrom 5 = .ok (.aload_n 0, 1) := by decide +kernel
theorem dX3_copyFrom_6 : decode cX3_copyFrom 6 = .ok (.getfield 9, 3) := by decide +kernel
theorem dX3_copyFrom_9 : decode cX3_copyFrom 9 = .ok (.iconst 0, 1) := by decide +kernel
theorem dX3_copyFrom_10 : decode cX3_copyFrom 10 = .ok (.iconst 4, 1) := by decide +kernel
theorem dX3_copyFrom_11 : decode cX3_copyFrom 11 = .ok (.invokestatic 15, 3) := by decide +kernel
theorem dX3_copyFrom_14 : decode cX3_copyFrom 14 = .ok (.aload_n 0, 1) := by decide +kernel
theorem dX3_copyFrom_15 : decode cX3_copyFrom 15 = .ok (.aload_n 1, 1) := by decide +kernel
theorem dX3_copyFrom_16 : decode cX3_copyFrom 16 = .ok (.getfield 21, 3) := by decide +kernel
theorem dX3_copyFrom_19 : decode cX3_copyFrom 19 = .ok (.putfield 21, 3) := by decide +kernel
theorem dX3_copyFrom_22 : decode cX3_copyFrom 22 = .ok (.aload_n 0, 1) := by decide +kernel
theorem dX3_copyFrom_23 : decode cX3_copyFrom 23 = .ok (.aload_n 1, 1) := by decide +kernel
theorem dX3_copyFrom_24 : decode cX3_copyFrom 24 = .ok (.getfield 25, 3) := by decide +kernel
theorem dX3_copyFrom_27 : decode cX3_copyFrom 27 = .ok (.putfield 25, 3) := by decide +kernel
theorem dX3_copyFrom_30 : decode cX3_copyFrom 30 = .ok (.aload_n 0, 1) := by decide +kernel
theorem dX3_copyFrom_31 : decode cX3_copyFrom 31 = .ok (.aload_n 1, 1) := by decide +kernel
theorem dX3_copyFrom_32 : decode cX3_copyFrom 32 = .ok (.getfield 28, 3) := by decide +kernel
theorem dX3_copyFrom_35 : decode cX3_copyFrom 35 = .ok (.putfield 28, 3) := by decide +kernel
theorem dX3_copyFrom_38 : decode cX3_copyFrom 38 = .ok (.aload_n 0, 1) := by decide +kernel
theorem dX3_copyFrom_39 : decode cX3_copyFrom 39 = .ok (.aload_n 1, 1) := by decide +kernel
theorem dX3_copyFrom_40 : decode cX3_copyFrom 40 = .ok (.getfield 31, 3) := by decide +kernel
theorem dX3_copyFrom_43 : decode cX3_copyFrom 43 = .ok (.putfield 31, 3) := by decide +kernel
theorem dX3_copyFrom_46 : decode cX3_copyFrom 46 = .ok (.aload_n 0, 1) := by decide +kernel
theorem dX3_copyFrom_47 : decode cX3_copyFrom 47 = .ok (.aload_n 1, 1) := by decide +kernel
theorem dX3_copyFrom_48 : decode cX3_copyFrom 48 = .ok (.getfield 34, 3) := by decide +kernel
theorem dX3_copyFrom_51 : decode cX3_copyFrom 51 = .ok (.putfield 34, 3) := by decide +kernel
theorem dX3_copyFrom_54 : decode cX3_copyFrom 54 = .ok (.aload_n 0, 1) := by decide +kernel
theorem dX3_copyFrom_55 : decode cX3_copyFrom 55 = .ok (.aload_n 1, 1) := by decide +kernel
theorem dX3_copyFrom_56 : decode cX3_copyFrom 56 = .ok (.getfield 37, 3) := by decide +kernel
theorem dX3_copyFrom_59 : decode cX3_copyFrom 59 = .ok (.putfield 37, 3) := by decide +kernel
theorem dX3_copyFrom_62 : decode cX3_copyFrom 62 = .ok (.return_, 1) := by decide +kernel
theorem dX3_start_0 : decode cX3_start 0 = .ok (.iload_n 2, 1) := by decide +kernel
theorem dX3_start_1 : decode cX3_start 1 = .ok (.istore 4, 2) := by decide +kernel
theorem dX3_start_3 : decode cX3_start 3 = .ok (.iconst 3, 1) := by decide +kernel
theorem dX3_start_4 : decode cX3_start 4 = .ok (.istore 5, 2) := by decide +kernel
theorem dX3_start_6 : decode cX3_start 6 = .ok (.iload 5, 2) := by decide +kernel
theorem dX3_start_8 : decode cX3_start 8 = .ok (.ifCond .lt 28, 3) := by decide +kernel
theorem dX3_start_11 : decode cX3_start 11 = .ok (.aload_n 0, 1) := by decide +kernel
theorem dX3_start_12 : decode cX3_start 12 = .ok (.getfield 9, 3) := by decide +kernel
theorem dX3_start_15 : decode cX3_start 15 = .ok (.iload 5, 2) := by decide +kernel
theorem dX3_start_17 : decode cX3_start 17 = .ok (.iload 4, 2) := by decide +kernel
theorem dX3_start_19 : decode cX3_start 19 = .ok (.bipush 10, 2) := by decide +kernel
theorem dX3_start_21 : decode cX3_start 21 = .ok (.irem, 1) := by decide +kernel
theorem dX3_start_22 : decode cX3_start 22 = .ok (.iastore, 1) := by decide +kernel
theorem dX3_start_23 : decode cX3_start 23 = .ok (.iload 4, 2) := by decide +kernel
theorem dX3_start_25 : decode cX3_start 25 = .ok (.bipush 10, 2) := by decide +kernel
theorem dX3_start_27 : decode cX3_start 27 = .ok (.idiv, 1) := by decide +kernel
theorem dX3_start_28 : decode cX3_start 28 = .ok (.istore 4, 2) := by decide +kernel
theorem dX3_start_30 : decode cX3_start 30 = .ok (.iinc 5 (-1), 3) := by decide +kernel
theorem dX3_start_33 : decode cX3_start 33 = .ok (.goto (-27), 3) := by decide +kernel
theorem dX3_start_36 : decode cX3_start 36 = .ok (.aload_n 0, 1) := by decide +kernel
theorem dX3_start_37 : decode cX3_start 37 = .ok (.iload_n 1, 1) := by decide +kernel
theorem dX3_start_38 : decode cX3_start 38 = .ok (.putfield 21, 3) := by decide +kernel
theorem dX3_start_41 : decode cX3_start 41 = .ok (.aload_n 0, 1) := by decide +kernel
theorem dX3_start_42 : decode cX3_start 42 = .ok (.iconst 0, 1) := by decide +kernel
theorem dX3_start_43 : decode cX3_start 43 = .ok (.putfield 25, 3) := by decide +kernel
theorem dX3_start_46 : decode cX3_start 46 = .ok (.aload_n 0, 1) := by decide +kernel
theorem dX3_start_47 : decode cX3_start 47 = .ok (.iload_n 3, 1) := by decide +kernel
theorem dX3_start_48 : decode cX3_start 48 = .ok (.putfield 28, 3) := by decide +kernel
theorem dX3_start_51 : decode cX3_start 51 = .ok (.aload_n 0, 1) := by decide +kernel
theorem dX3_start_52 : decode cX3_start 52 = .ok (.iconst 0, 1) := by decide +kernel
theorem dX3_start_53 : decode cX3_start 53 = .ok (.putfield 31, 3) := by decide +kernel
theorem dX3_start_56 : decode cX3_start 56 = .ok (.aload_n 0, 1) := by decide +kernel
theorem dX3_start_57 : decode cX3_start 57 = .ok (.sipush (-9999), 3) := by decide +kernel
theorem dX3_start_60 : decode cX3_start 60 = .ok (.putfield 34, 3) := by decide +kernel
theorem dX3_start_63 : decode cX3_start 63 = .ok (.aload_n 0, 1) := by decide +kernel
theorem dX3_start_64 : decode cX3_start 64 = .ok (.iconst 0, 1) := by decide +kernel
theorem dX3_start_65 : decode cX3_start 65 = .ok (.putfield 37, 3) := by decide +kernel
theorem dX3_start_68 : decode cX3_start 68 = .ok (.return_, 1) := by decide +kernel
theorem dX3_wantedLevel_0 : decode cX3_wantedLevel 0 = .ok (.aload_n 0, 1) := by decide +kernel
theorem dX3_wantedLevel_1 : decode cX3_wantedLevel 1 = .ok (.getfield 9, 3) := by decide +kernel
theorem dX3_wantedLevel_4 : decode cX3_wantedLevel 4 = .ok (.aload_n 0, 1) := by decide +kernel
theorem dX3_wantedLevel_5 : decode cX3_wantedLevel 5 = .ok (.getfield 21, 3) := by decide +kernel
theorem dX3_wantedLevel_8 : decode cX3_wantedLevel 8 = .ok (.iaload, 1) := by decide +kernel
theorem dX3_wantedLevel_9 : decode cX3_wantedLevel 9 = .ok (.ireturn, 1) := by decide +kernel
theorem dX3_gainCredits_0 : decode cX3_gainCredits 0 = .ok (.aload_n 0, 1) := by decide +kernel
theorem dX3_gainCredits_1 : decode cX3_gainCredits 1 = .ok (.bipush (-99), 2) := by decide +kernel
theorem dX3_gainCredits_3 : decode cX3_gainCredits 3 = .ok (.bipush 99, 2) := by decide +kernel
theorem dX3_gainCredits_5 : decode cX3_gainCredits 5 = .ok (.aload_n 0, 1) := by decide +kernel
theorem dX3_gainCredits_6 : decode cX3_gainCredits 6 = .ok (.getfield 28, 3) := by decide +kernel
theorem dX3_gainCredits_9 : decode cX3_gainCredits 9 = .ok (.iload_n 1, 1) := by decide +kernel
theorem dX3_gainCredits_10 : decode cX3_gainCredits 10 = .ok (.iadd, 1) := by decide +kernel
theorem dX3_gainCredits_11 : decode cX3_gainCredits 11 = .ok (.invokestatic 40, 3) := by decide +kernel
theorem dX3_gainCredits_14 : decode cX3_gainCredits 14 = .ok (.invokestatic 46, 3) := by decide +kernel
theorem dX3_gainCredits_17 : decode cX3_gainCredits 17 = .ok (.putfield 28, 3) := by decide +kernel
theorem dX3_gainCredits_20 : decode cX3_gainCredits 20 = .ok (.return_, 1) := by decide +kernel
theorem dX3_learn_0 : decode cX3_learn 0 = .ok (.aload_n 0, 1) := by decide +kernel
theorem dX3_learn_1 : decode cX3_learn 1 = .ok (.dup, 1) := by decide +kernel
theorem dX3_learn_2 : decode cX3_learn 2 = .ok (.getfield 25, 3) := by decide +kernel
theorem dX3_learn_5 : decode cX3_learn 5 = .ok (.iload_n 1, 1) := by decide +kernel
theorem dX3_learn_6 : decode cX3_learn 6 = .ok (.iadd, 1) := by decide +kernel
theorem dX3_learn_7 : decode cX3_learn 7 = .ok (.putfield 25, 3) := by decide +kernel
theorem dX3_learn_10 : decode cX3_learn 10 = .ok (.aload_n 0, 1) := by decide +kernel
theorem dX3_learn_11 : decode cX3_learn 11 = .ok (.getfield 25, 3) := by decide +kernel
theorem dX3_learn_14 : decode cX3_learn 14 = .ok (.bipush 20, 2) := by decide +kernel
theorem dX3_learn_16 : decode cX3_learn 16 = .ok (.if_icmp .lt 41, 3) := by decide +kernel
theorem dX3_learn_19 : decode cX3_learn 19 = .ok (.aload_n 0, 1) := by decide +kernel
theorem dX3_learn_20 : decode cX3_learn 20 = .ok (.getfield 9, 3) := by decide +kernel
theorem dX3_learn_23 : decode cX3_learn 23 = .ok (.aload_n 0, 1) := by decide +kernel
theorem dX3_learn_24 : decode cX3_learn 24 = .ok (.getfield 21, 3) := by decide +kernel
theorem dX3_learn_27 : decode cX3_learn 27 = .ok (.iaload, 1) := by decide +kernel
theorem dX3_learn_28 : decode cX3_learn 28 = .ok (.bipush 9, 2) := by decide +kernel
theorem dX3_learn_30 : decode cX3_learn 30 = .ok (.if_icmp .ge 27, 3) := by decide +kernel
theorem dX3_learn_33 : decode cX3_learn 33 = .ok (.aload_n 0, 1) := by decide +kernel
theorem dX3_learn_34 : decode cX3_learn 34 = .ok (.getfield 9, 3) := by decide +kernel
theorem dX3_learn_37 : decode cX3_learn 37 = .ok (.aload_n 0, 1) := by decide +kernel
theorem dX3_learn_38 : decode cX3_learn 38 = .ok (.getfield 21, 3) := by decide +kernel
theorem dX3_learn_41 : decode cX3_learn 41 = .ok (.dup2, 1) := by decide +kernel
theorem dX3_learn_42 : decode cX3_learn 42 = .ok (.iaload, 1) := by decide +kernel
theorem dX3_learn_43 : decode cX3_learn 43 = .ok (.iconst 1, 1) := by decide +kernel
theorem dX3_learn_44 : decode cX3_learn 44 = .ok (.iadd, 1) := by decide +kernel
theorem dX3_learn_45 : decode cX3_learn 45 = .ok (.iastore, 1) := by decide +kernel
theorem dX3_learn_46 : decode cX3_learn 46 = .ok (.aload_n 0, 1) := by decide +kernel
theorem dX3_learn_47 : decode cX3_learn 47 = .ok (.dup, 1) := by decide +kernel
theorem dX3_learn_48 : decode cX3_learn 48 = .ok (.getfield 25, 3) := by decide +kernel
theorem dX3_learn_51 : decode cX3_learn 51 = .ok (.bipush 20, 2) := by decide +kernel
theorem dX3_learn_53 : decode cX3_learn 53 = .ok (.isub, 1) := by decide +kernel
theorem dX3_learn_54 : decode cX3_learn 54 = .ok (.putfield 25, 3) := by decide +kernel
theorem dX3_learn_57 : decode cX3_learn 57 = .ok (.aload_n 0, 1) := by decide +kernel
theorem dX3_learn_58 : decode cX3_learn 58 = .ok (.getfield 9, 3) := by decide +kernel
theorem dX3_learn_61 : decode cX3_learn 61 = .ok (.aload_n 0, 1) := by decide +kernel
theorem dX3_learn_62 : decode cX3_learn 62 = .ok (.getfield 21, 3) := by decide +kernel
theorem dX3_learn_65 : decode cX3_learn 65 = .ok (.iaload, 1) := by decide +kernel
theorem dX3_learn_66 : decode cX3_learn 66 = .ok (.bipush 9, 2) := by decide +kernel
theorem dX3_learn_68 : decode cX3_learn 68 = .ok (.if_icmp .ne 8, 3) := by decide +kernel
theorem dX3_learn_71 : decode cX3_learn 71 = .ok (.aload_n 0, 1) := by decide +kernel
theorem dX3_learn_72 : decode cX3_learn 72 = .ok (.iconst 0, 1) := by decide +kernel
theorem dX3_learn_73 : decode cX3_learn 73 = .ok (.putfield 25, 3) := by decide +kernel
theorem dX3_learn_76 : decode cX3_learn 76 = .ok (.return_, 1) := by decide +kernel
set_option maxRecDepth 20000 in
theorem ggX3_meet_X3_gainCredits : GoodIn wsX3_meet wsX3_gainCredits := goodIn_r _ [6, 7, 8, 9, 10, 11, 12, 13, 14, 22, 23, 24, 25, 26, 27, 28] (by decide +kernel) (by decide +kernel)
set_option maxRecDepth 20000 in
theorem gX3_meet_X3_gainCredits : GoodIn wsX3_meet (wsV RX3 49 RX3 yX3_gainCredits wsX3_gainCredits) := goodIn_app (goodIn_of _ (by decide +kernel)) ggX3_meet_X3_gainCredits
set_option maxRecDepth 20000 in
theorem ggX3_meet_X3_learn : GoodIn wsX3_meet wsX3_learn := goodIn_r _ [18, 19, 20, 21, 22, 23, 24, 25, 26, 27, 28] (by decide +kernel) (by decide +kernel)
set_option maxRecDepth 20000 in
theorem gX3_meet_X3_learn : GoodIn wsX3_meet (wsV RX3 53 RX3 yX3_learn wsX3_learn) := goodIn_app (goodIn_of _ (by decide +kernel)) ggX3_meet_X3_learn
theorem dX3_meet_0 : decode cX3_meet 0 = .ok (.aload_n 0, 1) := by decide +kernel
theorem dX3_meet_1 : decode cX3_meet 1 = .ok (.iconst 0, 1) := by decide +kernel
theorem dX3_meet_2 : decode cX3_meet 2 = .ok (.putfield 37, 3) := by decide +kernel
theorem dX3_meet_5 : decode cX3_meet 5 = .ok (.aload_n 0, 1) := by decide +kernel
theorem dX3_meet_6 : decode cX3_meet 6 = .ok (.iconst 1, 1) := by decide +kernel
theorem dX3_meet_7 : decode cX3_meet 7 = .ok (.invokevirtual 49, 3) := by decide +kernel
theorem dX3_meet_10 : decode cX3_meet 10 = .ok (.aload_n 0, 1) := by decide +kernel
theorem dX3_meet_11 : decode cX3_meet 11 = .ok (.iload_n 1, 1) := by decide +kernel
theorem dX3_meet_12 : decode cX3_meet 12 = .ok (.invokevirtual 53, 3) := by decide +kernel
theorem dX3_meet_15 : decode cX3_meet 15 = .ok (.return_, 1) := by decide +kernel
set_option maxRecDepth 20000 in
theorem ggX3_failToMeet_X3_gainCredits : GoodIn wsX3_failToMeet wsX3_gainCredits := goodIn_r _ [7, 8, 9, 10, 11, 12, 13, 14, 15, 16, 17, 18, 19, 20, 21, 22] (by decide +kernel) (by decide +kernel)
set_option maxRecDepth 20000 in
theorem gX3_failToMeet_X3_gainCredits : GoodIn wsX3_failToMeet (wsV RX3 49 RX3 yX3_gainCredits wsX3_gainCredits) := goodIn_app (goodIn_of _ (by decide +kernel)) ggX3_failToMeet_X3_gainCredits
theorem dX3_failToMeet_0 : decode cX3_failToMeet 0 = .ok (.aload_n 0, 1) := by decide +kernel
theorem dX3_failToMeet_1 : decode cX3_failToMeet 1 = .ok (.dup, 1) := by decide +kernel
theorem dX3_failToMeet_2 : decode cX3_failToMeet 2 = .ok (.getfield 37, 3) := by decide +kernel
theorem dX3_failToMeet_5 : decode cX3_failToMeet 5 = .ok (.iconst 1, 1) := by decide +kernel
theorem dX3_failToMeet_6 : decode cX3_failToMeet 6 = .ok (.iadd, 1) := by decide +kernel
theorem dX3_failToMeet_7 : decode cX3_failToMeet 7 = .ok (.putfield 37, 3) := by decide +kernel
theorem dX3_failToMeet_10 : decode cX3_failToMeet 10 = .ok (.iload_n 1, 1) := by decide +kernel
theorem dX3_failToMeet_11 : decode cX3_failToMeet 11 = .ok (.ifCond .eq 22, 3) := by decide +kernel
theorem dX3_failToMeet_14 : decode cX3_failToMeet 14 = .ok (.aload_n 0, 1) := by decide +kernel
theorem dX3_failToMeet_15 : decode cX3_failToMeet 15 = .ok (.dup, 1) := by decide +kernel
theorem dX3_failToMeet_16 : decode cX3_failToMeet 16 = .ok (.getfield 31, 3) := by decide +kernel
theorem dX3_failToMeet_19 : decode cX3_failToMeet 19 = .ok (.iconst 1, 1) := by decide +kernel
theorem dX3_failToMeet_20 : decode cX3_failToMeet 20 = .ok (.iadd, 1) := by decide +kernel
theorem dX3_failToMeet_21 : decode cX3_failToMeet 21 = .ok (.putfield 31, 3) := by decide +kernel
theorem dX3_failToMeet_24 : decode cX3_failToMeet 24 = .ok (.aload_n 0, 1) := by decide +kernel
theorem dX3_failToMeet_25 : decode cX3_failToMeet 25 = .ok (.bipush (-3), 2) := by decide +kernel
theorem dX3_failToMeet_27 : decode cX3_failToMeet 27 = .ok (.invokevirtual 49, 3) := by decide +kernel
theorem dX3_failToMeet_30 : decode cX3_failToMeet 30 = .ok (.goto 8, 3) := by decide +kernel
theorem dX3_failToMeet_33 : decode cX3_failToMeet 33 = .ok (.aload_n 0, 1) := by decide +kernel
theorem dX3_failToMeet_34 : decode cX3_failToMeet 34 = .ok (.iconst 2, 1) := by decide +kernel
theorem dX3_failToMeet_35 : decode cX3_failToMeet 35 = .ok (.invokevirtual 49, 3) := by decide +kernel
theorem dX3_failToMeet_38 : decode cX3_failToMeet 38 = .ok (.return_, 1) := by decide +kernel
theorem dX4_init_0 : decode cX4_init 0 = .ok (.aload_n 0, 1) := by decide +kernel
theorem dX4_init_1 : decode cX4_init 1 = .ok (.invokespecial 3, 3) := by decide +kernel
theorem dX4_init_4 : decode cX4_init 4 = .ok (.aload_n 0, 1) := by decide +kernel
theorem dX4_init_5 : decode cX4_init 5 = .ok (.bipush 90, 2) := by decide +kernel
theorem dX4_init_7 : decode cX4_init 7 = .ok (.newarray .char, 2) := by decide +kernel
theorem dX4_init_9 : decode cX4_init 9 = .ok (.putfield 9, 3) := by decide +kernel
theorem dX4_init_12 : decode cX4_init 12 = .ok (.return_, 1) := by decide +kernel
theorem dX4_add_0 : decode cX4_add 0 = .ok (.aload_n 0, 1) := by decide +kernel
theorem dX4_add_1 : decode cX4_add 1 = .ok (.getfield 15, 3) := by decide +kernel
theorem dX4_add_4 : decode cX4_add 4 = .ok (.bipush 90, 2) := by decide +kernel
theorem dX4_add_6 : decode cX4_add 6 = .ok (.if_icmp .ge 23, 3) := by decide +kernel
theorem dX4_add_9 : decode cX4_add 9 = .ok (.aload_n 0, 1) := by decide +kernel
theorem dX4_add_10 : decode cX4_add 10 = .ok (.getfield 9, 3) := by decide +kernel
theorem dX4_add_13 : decode cX4_add 13 = .ok (.aload_n 0, 1) := by decide +kernel
theorem dX4_add_14 : decode cX4_add 14 = .ok (.getfield 15, 3) := by decide +kernel
theorem dX4_add_17 : decode cX4_add 17 = .ok (.iload_n 1, 1) := by decide +kernel
theorem dX4_add_18 : decode cX4_add 18 = .ok (.castore, 1) := by decide +kernel
theorem dX4_add_19 : decode cX4_add 19 = .ok (.aload_n 0, 1) := by decide +kernel
theorem dX4_add_20 : decode cX4_add 20 = .ok (.dup, 1) := by decide +kernel
theorem dX4_add_21 : decode cX4_add 21 = .ok (.getfield 15, 3) := by decide +kernel
theorem dX4_add_24 : decode cX4_add 24 = .ok (.iconst 1, 1) := by decide +kernel
theorem dX4_add_25 : decode cX4_add 25 = .ok (.iadd, 1) := by decide +kernel
theorem dX4_add_26 : decode cX4_add 26 = .ok (.putfield 15, 3) := by decide +kernel
theorem dX4_add_29 : decode cX4_add 29 = .ok (.return_, 1) := by decide +kernel
set_option maxRecDepth 20000 in
theorem ggX4_firstError_X4_allows : GoodIn wsX4_firstError wsX4_allows := goodIn_r _ [7] (by decide +kernel) (by decide +kernel)
set_option maxRecDepth 20000 in
theorem gX4_firstError_X4_allows : GoodIn wsX4_firstError (wsV RX4 19 RX4 yX4_allows wsX4_allows) := goodIn_app (goodIn_of _ (by decide +kernel)) ggX4_firstError_X4_allows
set_option maxRecDepth 20000 in
theorem ggX4_firstError_X4_isWhole : GoodIn wsX4_firstError wsX4_isWhole := goodIn_r _ [11, 1, 12, 13] (by decide +kernel) (by decide +kernel)
set_option maxRecDepth 20000 in
theorem gX4_firstError_X4_isWhole : GoodIn wsX4_firstError (wsV RX4 23 RX4 yX4_isWhole wsX4_isWhole) := goodIn_app (goodIn_of _ (by decide +kernel)) ggX4_firstError_X4_isWhole
theorem dX4_firstError_0 : decode cX4_firstError 0 = .ok (.iconst 0, 1) := by decide +kernel
theorem dX4_firstError_1 : decode cX4_firstError 1 = .ok (.istore_n 1, 1) := by decide +kernel
theorem dX4_firstError_2 : decode cX4_firstError 2 = .ok (.iload_n 1, 1) := by decide +kernel
theorem dX4_firstError_3 : decode cX4_firstError 3 = .ok (.aload_n 0, 1) := by decide +kernel
theorem dX4_firstError_4 : decode cX4_firstError 4 = .ok (.getfield 15, 3) := by decide +kernel
theorem dX4_firstError_7 : decode cX4_firstError 7 = .ok (.if_icmp .ge 25, 3) := by decide +kernel
theorem dX4_firstError_10 : decode cX4_firstError 10 = .ok (.aload_n 0, 1) := by decide +kernel
theorem dX4_firstError_11 : decode cX4_firstError 11 = .ok (.iload_n 1, 1) := by decide +kernel
theorem dX4_firstError_12 : decode cX4_firstError 12 = .ok (.aload_n 0, 1) := by decide +kernel
theorem dX4_firstError_13 : decode cX4_firstError 13 = .ok (.getfield 9, 3) := by decide +kernel
theorem dX4_firstError_16 : decode cX4_firstError 16 = .ok (.iload_n 1, 1) := by decide +kernel
theorem dX4_firstError_17 : decode cX4_firstError 17 = .ok (.caload, 1) := by decide +kernel
theorem dX4_firstError_18 : decode cX4_firstError 18 = .ok (.invokevirtual 19, 3) := by decide +kernel
theorem dX4_firstError_21 : decode cX4_firstError 21 = .ok (.ifCond .ne 5, 3) := by decide +kernel
theorem dX4_firstError_24 : decode cX4_firstError 24 = .ok (.iload_n 1, 1) := by decide +kernel
theorem dX4_firstError_25 : decode cX4_firstError 25 = .ok (.ireturn, 1) := by decide +kernel
theorem dX4_firstError_26 : decode cX4_firstError 26 = .ok (.iinc 1 1, 3) := by decide +kernel
theorem dX4_firstError_29 : decode cX4_firstError 29 = .ok (.goto (-27), 3) := by decide +kernel
theorem dX4_firstError_32 : decode cX4_firstError 32 = .ok (.aload_n 0, 1) := by decide +kernel
theorem dX4_firstError_33 : decode cX4_firstError 33 = .ok (.invokevirtual 23, 3) := by decide +kernel
theorem dX4_firstError_36 : decode cX4_firstError 36 = .ok (.ifCond .eq 9, 3) := by decide +kernel
theorem dX4_firstError_39 : decode cX4_firstError 39 = .ok (.sipush (-9999), 3) := by decide +kernel
theorem dX4_firstError_42 : decode cX4_firstError 42 = .ok (.goto 7, 3) := by decide +kernel
theorem dX4_firstError_45 : decode cX4_firstError 45 = .ok (.aload_n 0, 1) := by decide +kernel
theorem dX4_firstError_46 : decode cX4_firstError 46 = .ok (.getfield 15, 3) := by decide +kernel
theorem dX4_firstError_49 : decode cX4_firstError 49 = .ok (.ireturn, 1) := by decide +kernel
theorem dX4_allows_0 : decode cX4_allows 0 = .ok (.iload_n 1, 1) := by decide +kernel
theorem dX4_allows_1 : decode cX4_allows 1 = .ok (.ifCond .ne 15, 3) := by decide +kernel
theorem dX4_allows_4 : decode cX4_allows 4 = .ok (.iload_n 2, 1) := by decide +kernel
theorem dX4_allows_5 : decode cX4_allows 5 = .ok (.bipush 76, 2) := by decide +kernel
theorem dX4_allows_7 : decode cX4_allows 7 = .ok (.if_icmp .ne 7, 3) := by decide +kernel
theorem dX4_allows_10 : decode cX4_allows 10 = .ok (.iconst 1, 1) := by decide +kernel
theorem dX4_allows_11 : decode cX4_allows 11 = .ok (.goto 4, 3) := by decide +kernel
theorem dX4_allows_14 : decode cX4_allows 14 = .ok (.iconst 0, 1) := by decide +kernel
theorem dX4_allows_15 : decode cX4_allows 15 = .ok (.ireturn, 1) := by decide +kernel
theorem dX4_allows_16 : decode cX4_allows 16 = .ok (.iload_n 1, 1) := by decide +kernel
theorem dX4_allows_17 : decode cX4_allows 17 = .ok (.bipush 72, 2) := by decide +kernel
theorem dX4_allows_19 : decode cX4_allows 19 = .ok (.if_icmp .le 5, 3) := by decide +kernel
theorem dX4_allows_22 : decode cX4_allows 22 = .ok (.iconst 0, 1) := by decide +kernel
theorem dX4_allows_23 : decode cX4_allows 23 = .ok (.ireturn, 1) := by decide +kernel
theorem dX4_allows_24 : decode cX4_allows 24 = .ok (.iload_n 1, 1) := by decide +kernel
theorem dX4_allows_25 : decode cX4_allows 25 = .ok (.iconst 1, 1) := by decide +kernel
theorem dX4_allows_26 : decode cX4_allows 26 = .ok (.isub, 1) := by decide +kernel
theorem dX4_allows_27 : decode cX4_allows 27 = .ok (.bipush 8, 2) := by decide +kernel
theorem dX4_allows_29 : decode cX4_allows 29 = .ok (.irem, 1) := by decide +kernel
theorem dX4_allows_30 : decode cX4_allows 30 = .ok (.istore_n 3, 1) := by decide +kernel
theorem dX4_allows_31 : decode cX4_allows 31 = .ok (.iload_n 3, 1) := by decide +kernel
theorem dX4_allows_32 : decode cX4_allows 32 = .ok (.ifCond .ne 15, 3) := by decide +kernel
theorem dX4_allows_35 : decode cX4_allows 35 = .ok (.iload_n 2, 1) := by decide +kernel
theorem dX4_allows_36 : decode cX4_allows 36 = .ok (.bipush 109, 2) := by decide +kernel
theorem dX4_allows_38 : decode cX4_allows 38 = .ok (.if_icmp .ne 7, 3) := by decide +kernel
theorem dX4_allows_41 : decode cX4_allows 41 = .ok (.iconst 1, 1) := by decide +kernel
theorem dX4_allows_42 : decode cX4_allows 42 = .ok (.goto 4, 3) := by decide +kernel
theorem dX4_allows_45 : decode cX4_allows 45 = .ok (.iconst 0, 1) := by decide +kernel
theorem dX4_allows_46 : decode cX4_allows 46 = .ok (.ireturn, 1) := by decide +kernel
theorem dX4_allows_47 : decode cX4_allows 47 = .ok (.iload_n 3, 1) := by decide +kernel
theorem dX4_allows_48 : decode cX4_allows 48 = .ok (.iconst 1, 1) := by decide +kernel
theorem dX4_allows_49 : decode cX4_allows 49 = .ok (.if_icmp .ne 8, 3) := by decide +kernel
theorem dX4_allows_52 : decode cX4_allows 52 = .ok (.bipush 51, 2) := by decide +kernel
theorem dX4_allows_54 : decode cX4_allows 54 = .ok (.goto 5, 3) := by decide +kernel
theorem dX4_allows_57 : decode cX4_allows 57 = .ok (.bipush 57, 2) := by decide +kernel
theorem dX4_allows_59 : decode cX4_allows 59 = .ok (.istore 4, 2) := by decide +kernel
theorem dX4_allows_61 : decode cX4_allows 61 = .ok (.iload_n 2, 1) := by decide +kernel
theorem dX4_allows_62 : decode cX4_allows 62 = .ok (.bipush 48, 2) := by decide +kernel
theorem dX4_allows_64 : decode cX4_allows 64 = .ok (.if_icmp .lt 13, 3) := by decide +kernel
theorem dX4_allows_67 : decode cX4_allows 67 = .ok (.iload_n 2, 1) := by decide +kernel
theorem dX4_allows_68 : decode cX4_allows 68 = .ok (.iload 4, 2) := by decide +kernel
theorem dX4_allows_70 : decode cX4_allows 70 = .ok (.if_icmp .gt 7, 3) := by decide +kernel
theorem dX4_allows_73 : decode cX4_allows 73 = .ok (.iconst 1, 1) := by decide +kernel
theorem dX4_allows_74 : decode cX4_allows 74 = .ok (.goto 4, 3) := by decide +kernel
theorem dX4_allows_77 : decode cX4_allows 77 = .ok (.iconst 0, 1) := by decide +kernel
theorem dX4_allows_78 : decode cX4_allows 78 = .ok (.ireturn, 1) := by decide +kernel
theorem dX4_isWhole_0 : decode cX4_isWhole 0 = .ok (.aload_n 0, 1) := by decide +kernel
theorem dX4_isWhole_1 : decode cX4_isWhole 1 = .ok (.getfield 15, 3) := by decide +kernel
theorem dX4_isWhole_4 : decode cX4_isWhole 4 = .ok (.ifCond .le 19, 3) := by decide +kernel
theorem dX4_isWhole_7 : decode cX4_isWhole 7 = .ok (.aload_n 0, 1) := by decide +kernel
theorem dX4_isWhole_8 : decode cX4_isWhole 8 = .ok (.getfield 15, 3) := by decide +kernel
theorem dX4_isWhole_11 : decode cX4_isWhole 11 = .ok (.iconst 1, 1) := by decide +kernel
theorem dX4_isWhole_12 : decode cX4_isWhole 12 = .ok (.isub, 1) := by decide +kernel
theorem dX4_isWhole_13 : decode cX4_isWhole 13 = .ok (.bipush 8, 2) := by decide +kernel
theorem dX4_isWhole_15 : decode cX4_isWhole 15 = .ok (.irem, 1) := by decide +kernel
theorem dX4_isWhole_16 : decode cX4_isWhole 16 = .ok (.ifCond .ne 7, 3) := by decide +kernel
theorem dX4_isWhole_19 : decode cX4_isWhole 19 = .ok (.iconst 1, 1) := by decide +kernel
theorem dX4_isWhole_20 : decode cX4_isWhole 20 = .ok (.goto 4, 3) := by decide +kernel
theorem dX4_isWhole_23 : decode cX4_isWhole 23 = .ok (.iconst 0, 1) := by decide +kernel
theorem dX4_isWhole_24 : decode cX4_isWhole 24 = .ok (.ireturn, 1) := by decide +kernel
set_option maxRecDepth 20000 in
theorem ggX4_readInto_X4_number : GoodIn wsX4_readInto wsX4_number := goodIn_r _ [8, 3, 9, 32, 33] (by decide +kernel) (by decide +kernel)
set_option maxRecDepth 20000 in
theorem gX4_readInto_X4_number : GoodIn wsX4_readInto (wsV RX4 35 RX4 yX4_number wsX4_number) := goodIn_app (goodIn_of _ (by decide +kernel)) ggX4_readInto_X4_number
set_option maxRecDepth 20000 in
theorem ggX4_readInto_X1_add : GoodIn wsX4_readInto wsX1_add := goodIn_r _ [14, 15, 16, 17, 18, 19, 20, 21, 22, 23, 24, 25, 26, 27, 28, 29, 30, 31, 34, 35, 36, 37, 38, 39, 40] (by decide +kernel) (by decide +kernel)
set_option maxRecDepth 20000 in
theorem gX4_readInto_X1_add : GoodIn wsX4_readInto (wsV RX4 39 RX1 yX1_add wsX1_add) := goodIn_app (goodIn_of _ (by decide +kernel)) ggX4_readInto_X1_add
theorem dX4_readInto_0 : decode cX4_readInto 0 = .ok (.aload_n 1, 1) := by decide +kernel
theorem dX4_readInto_1 : decode cX4_readInto 1 = .ok (.iconst 0, 1) := by decide +kernel
theorem dX4_readInto_2 : decode cX4_readInto 2 = .ok (.putfield 27, 3) := by decide +kernel
theorem dX4_readInto_5 : decode cX4_readInto 5 = .ok (.aload_n 1, 1) := by decide +kernel
theorem dX4_readInto_6 : decode cX4_readInto 6 = .ok (.iconst 0, 1) := by decide +kernel
theorem dX4_readInto_7 : decode cX4_readInto 7 = .ok (.putfield 32, 3) := by decide +kernel
theorem dX4_readInto_10 : decode cX4_readInto 10 = .ok (.iconst 1, 1) := by decide +kernel
theorem dX4_readInto_11 : decode cX4_readInto 11 = .ok (.istore_n 2, 1) := by decide +kernel
theorem dX4_readInto_12 : decode cX4_readInto 12 = .ok (.iload_n 2, 1) := by decide +kernel
theorem dX4_readInto_13 : decode cX4_readInto 13 = .ok (.bipush 8, 2) := by decide +kernel
theorem dX4_readInto_15 : decode cX4_readInto 15 = .ok (.iadd, 1) := by decide +kernel
theorem dX4_readInto_16 : decode cX4_readInto 16 = .ok (.aload_n 0, 1) := by decide +kernel
theorem dX4_readInto_17 : decode cX4_readInto 17 = .ok (.getfield 15, 3) := by decide +kernel
theorem dX4_readInto_20 : decode cX4_readInto 20 = .ok (.if_icmp .gt 38, 3) := by decide +kernel
theorem dX4_readInto_23 : decode cX4_readInto 23 = .ok (.aload_n 1, 1) := by decide +kernel
theorem dX4_readInto_24 : decode cX4_readInto 24 = .ok (.aload_n 0, 1) := by decide +kernel
theorem dX4_readInto_25 : decode cX4_readInto 25 = .ok (.iload_n 2, 1) := by decide +kernel
theorem dX4_readInto_26 : decode cX4_readInto 26 = .ok (.iconst 1, 1) := by decide +kernel
theorem dX4_readInto_27 : decode cX4_readInto 27 = .ok (.iadd, 1) := by decide +kernel
theorem dX4_readInto_28 : decode cX4_readInto 28 = .ok (.iconst 1, 1) := by decide +kernel
theorem dX4_readInto_29 : decode cX4_readInto 29 = .ok (.invokevirtual 35, 3) := by decide +kernel
theorem dX4_readInto_32 : decode cX4_readInto 32 = .ok (.aload_n 0, 1) := by decide +kernel
theorem dX4_readInto_33 : decode cX4_readInto 33 = .ok (.iload_n 2, 1) := by decide +kernel
theorem dX4_readInto_34 : decode cX4_readInto 34 = .ok (.iconst 2, 1) := by decide +kernel
theorem dX4_readInto_35 : decode cX4_readInto 35 = .ok (.iadd, 1) := by decide +kernel
theorem dX4_readInto_36 : decode cX4_readInto 36 = .ok (.iconst 4, 1) := by decide +kernel
theorem dX4_readInto_37 : decode cX4_readInto 37 = .ok (.invokevirtual 35, 3) := by decide +kernel
theorem dX4_readInto_40 : decode cX4_readInto 40 = .ok (.aload_n 0, 1) := by decide +kernel
theorem dX4_readInto_41 : decode cX4_readInto 41 = .ok (.iload_n 2, 1) := by decide +kernel
theorem dX4_readInto_42 : decode cX4_readInto 42 = .ok (.bipush 6, 2) := by decide +kernel
theorem dX4_readInto_44 : decode cX4_readInto 44 = .ok (.iadd, 1) := by decide +kernel
theorem dX4_readInto_45 : decode cX4_readInto 45 = .ok (.iconst 2, 1) := by decide +kernel
theorem dX4_readInto_46 : decode cX4_readInto 46 = .ok (.invokevirtual 35, 3) := by decide +kernel
theorem dX4_readInto_49 : decode cX4_readInto 49 = .ok (.invokevirtual 39, 3) := by decide +kernel
theorem dX4_readInto_52 : decode cX4_readInto 52 = .ok (.iinc 2 8, 3) := by decide +kernel
theorem dX4_readInto_55 : decode cX4_readInto 55 = .ok (.goto (-43), 3) := by decide +kernel
theorem dX4_readInto_58 : decode cX4_readInto 58 = .ok (.return_, 1) := by decide +kernel
theorem dX4_number_0 : decode cX4_number 0 = .ok (.iconst 0, 1) := by decide +kernel
theorem dX4_number_1 : decode cX4_number 1 = .ok (.istore_n 3, 1) := by decide +kernel
theorem dX4_number_2 : decode cX4_number 2 = .ok (.iload_n 1, 1) := by decide +kernel
theorem dX4_number_3 : decode cX4_number 3 = .ok (.istore 4, 2) := by decide +kernel
theorem dX4_number_5 : decode cX4_number 5 = .ok (.iload 4, 2) := by decide +kernel
theorem dX4_number_7 : decode cX4_number 7 = .ok (.iload_n 1, 1) := by decide +kernel
theorem dX4_number_8 : decode cX4_number 8 = .ok (.iload_n 2, 1) := by decide +kernel
theorem dX4_number_9 : decode cX4_number 9 = .ok (.iadd, 1) := by decide +kernel
theorem dX4_number_10 : decode cX4_number 10 = .ok (.if_icmp .ge 34, 3) := by decide +kernel
theorem dX4_number_13 : decode cX4_number 13 = .ok (.iload 4, 2) := by decide +kernel
theorem dX4_number_15 : decode cX4_number 15 = .ok (.aload_n 0, 1) := by decide +kernel
theorem dX4_number_16 : decode cX4_number 16 = .ok (.getfield 15, 3) := by decide +kernel
theorem dX4_number_19 : decode cX4_number 19 = .ok (.if_icmp .ge 25, 3) := by decide +kernel
theorem dX4_number_22 : decode cX4_number 22 = .ok (.bipush 10, 2) := by decide +kernel
theorem dX4_number_24 : decode cX4_number 24 = .ok (.iload_n 3, 1) := by decide +kernel
theorem dX4_number_25 : decode cX4_number 25 = .ok (.imul, 1) := by decide +kernel
theorem dX4_number_26 : decode cX4_number 26 = .ok (.aload_n 0, 1) := by decide +kernel
theorem dX4_number_27 : decode cX4_number 27 = .ok (.getfield 9, 3) := by decide +kernel
theorem dX4_number_30 : decode cX4_number 30 = .ok (.iload 4, 2) := by decide +kernel
theorem dX4_number_32 : decode cX4_number 32 = .ok (.caload, 1) := by decide +kernel
theorem dX4_number_33 : decode cX4_number 33 = .ok (.iadd, 1) := by decide +kernel
theorem dX4_number_34 : decode cX4_number 34 = .ok (.bipush 48, 2) := by decide +kernel
theorem dX4_number_36 : decode cX4_number 36 = .ok (.isub, 1) := by decide +kernel
theorem dX4_number_37 : decode cX4_number 37 = .ok (.istore_n 3, 1) := by decide +kernel
theorem dX4_number_38 : decode cX4_number 38 = .ok (.iinc 4 1, 3) := by decide +kernel
theorem dX4_number_41 : decode cX4_number 41 = .ok (.goto (-36), 3) := by decide +kernel
theorem dX4_number_44 : decode cX4_number 44 = .ok (.iload_n 3, 1) := by decide +kernel
theorem dX4_number_45 : decode cX4_number 45 = .ok (.ireturn, 1) := by decide +kernel
set_option maxRecDepth 20000 in
theorem ggX5_init_X4_init : GoodIn wsX5_init wsX4_init := goodIn_r _ [25, 26, 2, 3, 27, 28, 53, 54] (by decide +kernel) (by decide +kernel)
set_option maxRecDepth 20000 in
theorem gX5_init_X4_init_n11 : GoodIn wsX5_init (wsX4_init) := ggX5_init_X4_init
set_option maxRecDepth 20000 in
theorem ggX5_init_X1_init : GoodIn wsX5_init wsX1_init := goodIn_r _ [31, 32, 2, 3, 33, 34, 35, 36, 37, 38, 39, 40, 41, 62, 63, 64, 69, 70, 71, 72, 73, 74, 75] (by decide +kernel) (by decide +kernel)
set_option maxRecDepth 20000 in
theorem gX5_init_X1_init : GoodIn wsX5_init (wsX1_init) := ggX5_init_X1_init
set_option maxRecDepth 20000 in
theorem ggX5_init_X2_init : GoodIn wsX5_init wsX2_init := goodIn_r _ [44, 45, 2, 3, 46, 47, 9, 10, 48, 30, 31, 32, 33, 34, 35, 36, 37, 38, 39, 40, 41, 65, 66, 67, 62, 63, 64, 69, 70, 71, 72, 73, 74, 75] (by decide +kernel) (by decide +kernel)
set_option maxRecDepth 20000 in
theorem gX5_init_X2_init : GoodIn wsX5_init (wsX2_init) := ggX5_init_X2_init
set_option maxRecDepth 20000 in
theorem ggX5_init_X0_init : GoodIn wsX5_init wsX0_init := goodIn_r _ [50, 51, 2, 3, 40, 52, 68] (by decide +kernel) (by decide +kernel)
set_option maxRecDepth 20000 in
theorem gX5_init_X0_init_n43 : GoodIn wsX5_init (wsX0_init) := ggX5_init_X0_init
end
section
abbrev rmX3_copyFrom : Room := { frames := 1, cells := 0, slots := 0, locals := 60 }
theorem wX3_copyFrom_9 : Cond.fieldLink RX3 9 "TandemExchange$Member" "levels" "[I" ∈ wsX3_copyFrom := by decide +kernel
theorem iX3_copyFrom_3 : ∀ w ∈ wsX30, w ∈ wsX3_copyFrom := fun _ h => List.mem_cons_of_mem _ (List.mem_append_right _ h)
theorem wX3_copyFrom_15 : Cond.methodLink RX3 15 arraycopyName ∈ wsX3_copyFrom := by decide +kernel
theorem wX3_copyFrom_acn : Cond.native arraycopyName ∈ wsX3_copyFrom := by decide +kernel
theorem wX3_copyFrom_acs : Cond.static arraycopyName ∈ wsX3_copyFrom := by decide +kernel
theorem wX3_copyFrom_aci : Cond.initialized "java/lang/System" ∈ wsX3_copyFrom := by decide +kernel
theorem wX3_copyFrom_21 : Cond.fieldLink RX3 21 "TandemExchange$Member" "wants" "I" ∈ wsX3_copyFrom := by decide +kernel
theorem wX3_copyFrom_25 : Cond.fieldLink RX3 25 "TandemExchange$Member" "progress" "I" ∈ wsX3_copyFrom := by decide +kernel
theorem wX3_copyFrom_28 : Cond.fieldLink RX3 28 "TandemExchange$Member" "credits" "I" ∈ wsX3_copyFrom := by decide +kernel
theorem wX3_copyFrom_31 : Cond.fieldLink RX3 31 "TandemExchange$Member" "missed" "I" ∈ wsX3_copyFrom := by decide +kernel
theorem wX3_copyFrom_34 : Cond.fieldLink RX3 34 "TandemExchange$Member" "partner" "I" ∈ wsX3_copyFrom := by decide +kernel
theorem wX3_copyFrom_37 : Cond.fieldLink RX3 37 "TandemExchange$Member" "missedInRow" "I" ∈ wsX3_copyFrom := by decide +kernel
set_option maxRecDepth 100000 in
set_option maxHeartbeats 4000000 in
theorem bX3_copyFrom_0 {p : Program} {l : Launch} {e : Env} {s : State} {m : MethodId} {args : Array Value} {below : List Frame} {meth : Method} {c : Code} {D : va_G} {cy : Nat → ClassId} {ad : Nat → Nat} {ba : Nat} {O : Int64} {S : teS}  {k0 : Nat} {m0 : Nat} {k1 : Nat} {m1 : Nat} {res : teS} (hk0 : k0 < 18) (hm0 : m0 < 9) (hk1 : k1 < 18) (hm1 : m1 < 9) (X : teC wsX3_copyFrom RX3 cX3_copyFrom 2 none D cy ba p s m args meth c) (H : Heap) (locs : List Loc) (ls : Array Slot) (hR : teR D cy ad ba O S H) (hS : va_S (teA ba) s.heap H locs) (hl : lv_has ls 2 [(0, .ref (ad (20 * k0 + 2 + m0))), (1, .ref (ad (20 * k1 + 2 + m1)))]) (hf : fX3_copyFrom k0 m0 k1 m1 S = some res) : W p l e (headSpec wsX3_copyFrom rmX3_copyFrom).room s m args below meth c H locs 0 0 (MQ below (va_Qv (fun (u : teS) => u = res) (fun u t => teR D cy ad ba O u t.heap) (teA ba)) args s 0 0 (teA ba)) (F0 m 0 ls []) := by
  have hx := X.1
  have hb := X.2.1
  have hown := X.2.2.2.2.1
  unfold fX3_copyFrom at hf
  refine lv_aload_n hx hb dX3_copyFrom_0 rfl (lv_at hl 1 rfl) ?_
  refine rg_3_0 X hR hk1 hm1 iX3_copyFrom_3 wX3_copyFrom_9 dX3_copyFrom_1 ?_
  refine lv_iconst (v := (0 : Int32)) hx hb dX3_copyFrom_4 (by decide) ?_
  refine lv_aload_n hx hb dX3_copyFrom_5 rfl (lv_at hl 0 rfl) ?_
  refine rg_3_0 X hR hk0 hm0 iX3_copyFrom_3 wX3_copyFrom_9 dX3_copyFrom_6 ?_
  refine lv_iconst (v := (0 : Int32)) hx hb dX3_copyFrom_9 (by decide) ?_
  refine lv_iconst (v := (4 : Int32)) hx hb dX3_copyFrom_10 (by decide) ?_
  refine rc_lev X hR hS hk0 hm0 hk1 hm1 wX3_copyFrom_15 wX3_copyFrom_acn wX3_copyFrom_acs wX3_copyFrom_aci hl.1 (Nat.le_of_ble_eq_true rfl) (Nat.le_of_ble_eq_true rfl) dX3_copyFrom_11 (fun H locs hR hS => ?_)
  generalize tecp S k0 m0 k1 m1 = S1 at hf hR
  replace hf := lt1_e hf
  refine lv_aload_n hx hb dX3_copyFrom_14 rfl (lv_at hl 0 rfl) ?_
  refine lv_aload_n hx hb dX3_copyFrom_15 rfl (lv_at hl 1 rfl) ?_
  refine rg_3_1 X hR hk1 hm1 iX3_copyFrom_3 wX3_copyFrom_21 dX3_copyFrom_16 ?_
  refine rp_3_1 X hR hS hk0 hm0 iX3_copyFrom_3 wX3_copyFrom_21 dX3_copyFrom_19 (fun H locs hR hS => ?_)
  generalize teu S1 k0 (2 + 10 * m0 + 4) (S1 k1 (2 + 10 * m1 + 4)) = S2 at hf hR
  replace hf := lt1_e hf
  refine lv_aload_n hx hb dX3_copyFrom_22 rfl (lv_at hl 0 rfl) ?_
  refine lv_aload_n hx hb dX3_copyFrom_23 rfl (lv_at hl 1 rfl) ?_
  refine rg_3_2 X hR hk1 hm1 iX3_copyFrom_3 wX3_copyFrom_25 dX3_copyFrom_24 ?_
  refine rp_3_2 X hR hS hk0 hm0 iX3_copyFrom_3 wX3_copyFrom_25 dX3_copyFrom_27 (fun H locs hR hS => ?_)
  generalize teu S2 k0 (2 + 10 * m0 + 5) (S2 k1 (2 + 10 * m1 + 5)) = S3 at hf hR
  replace hf := lt1_e hf
  refine lv_aload_n hx hb dX3_copyFrom_30 rfl (lv_at hl 0 rfl) ?_
  refine lv_aload_n hx hb dX3_copyFrom_31 rfl (lv_at hl 1 rfl) ?_
  refine rg_3_3 X hR hk1 hm1 iX3_copyFrom_3 wX3_copyFrom_28 dX3_copyFrom_32 ?_
  refine rp_3_3 X hR hS hk0 hm0 iX3_copyFrom_3 wX3_copyFrom_28 dX3_copyFrom_35 (fun H locs hR hS => ?_)
  generalize teu S3 k0 (2 + 10 * m0 + 6) (S3 k1 (2 + 10 * m1 + 6)) = S4 at hf hR
  replace hf := lt1_e hf
  refine lv_aload_n hx hb dX3_copyFrom_38 rfl (lv_at hl 0 rfl) ?_
  refine lv_aload_n hx hb dX3_copyFrom_39 rfl (lv_at hl 1 rfl) ?_
  refine rg_3_4 X hR hk1 hm1 iX3_copyFrom_3 wX3_copyFrom_31 dX3_copyFrom_40 ?_
  refine rp_3_4 X hR hS hk0 hm0 iX3_copyFrom_3 wX3_copyFrom_31 dX3_copyFrom_43 (fun H locs hR hS => ?_)
  generalize teu S4 k0 (2 + 10 * m0 + 7) (S4 k1 (2 + 10 * m1 + 7)) = S5 at hf hR
  replace hf := lt1_e hf
  refine lv_aload_n hx hb dX3_copyFrom_46 rfl (lv_at hl 0 rfl) ?_
  refine lv_aload_n hx hb dX3_copyFrom_47 rfl (lv_at hl 1 rfl) ?_
  refine rg_3_5 X hR hk1 hm1 iX3_copyFrom_3 wX3_copyFrom_34 dX3_copyFrom_48 ?_
  refine rp_3_5 X hR hS hk0 hm0 iX3_copyFrom_3 wX3_copyFrom_34 dX3_copyFrom_51 (fun H locs hR hS => ?_)
  generalize teu S5 k0 (2 + 10 * m0 + 8) (S5 k1 (2 + 10 * m1 + 8)) = S6 at hf hR
  replace hf := lt1_e hf
  refine lv_aload_n hx hb dX3_copyFrom_54 rfl (lv_at hl 0 rfl) ?_
  refine lv_aload_n hx hb dX3_copyFrom_55 rfl (lv_at hl 1 rfl) ?_
  refine rg_3_6 X hR hk1 hm1 iX3_copyFrom_3 wX3_copyFrom_37 dX3_copyFrom_56 ?_
  refine rp_3_6 X hR hS hk0 hm0 iX3_copyFrom_3 wX3_copyFrom_37 dX3_copyFrom_59 (fun H locs hR hS => ?_)
  generalize teu S6 k0 (2 + 10 * m0 + 9) (S6 k1 (2 + 10 * m1 + 9)) = S7 at hf hR
  replace hf := lt1_e hf
  exact eV X hR hS (Option.some.inj hf) dX3_copyFrom_62
theorem zcX3_copyFrom (l : Launch) (D : va_G) (cy : Nat → ClassId) (ad : Nat → Nat) (ba : Nat) (O : Int64) (S : teS) (k0 : Nat) (m0 : Nat) (k1 : Nat) (m1 : Nat) (hk0 : k0 < 18) (hm0 : m0 < 9) (hk1 : k1 < 18) (hm1 : m1 < 9) (res : teS) (hf : fX3_copyFrom k0 m0 k1 m1 S = some res) : cV l yX3_copyFrom wsX3_copyFrom rmX3_copyFrom D cy ad ba O S [.ref (ad (20 * k0 + 2 + m0)), .ref (ad (20 * k1 + 2 + m1))] res :=
  te_of (by decide) rfl (Nat.le_of_ble_eq_true rfl) (fun p e s m below meth c ls X hR hS hl => bX3_copyFrom_0 (S := S) (k0 := k0) (m0 := m0) (k1 := k1) (m1 := m1) hk0 hm0 hk1 hm1 X _ _ _ hR hS hl hf)
abbrev rmX3_start : Room := { frames := 0, cells := 0, slots := 0, locals := 0 }
theorem wX3_start_21 : Cond.fieldLink RX3 21 "TandemExchange$Member" "wants" "I" ∈ wsX3_start := by decide +kernel
theorem iX3_start_3 : ∀ w ∈ wsX30, w ∈ wsX3_start := fun _ h => List.mem_cons_of_mem _ (List.mem_append_right _ h)
theorem wX3_start_25 : Cond.fieldLink RX3 25 "TandemExchange$Member" "progress" "I" ∈ wsX3_start := by decide +kernel
theorem wX3_start_28 : Cond.fieldLink RX3 28 "TandemExchange$Member" "credits" "I" ∈ wsX3_start := by decide +kernel
theorem wX3_start_31 : Cond.fieldLink RX3 31 "TandemExchange$Member" "missed" "I" ∈ wsX3_start := by decide +kernel
theorem wX3_start_34 : Cond.fieldLink RX3 34 "TandemExchange$Member" "partner" "I" ∈ wsX3_start := by decide +kernel
theorem wX3_start_37 : Cond.fieldLink RX3 37 "TandemExchange$Member" "missedInRow" "I" ∈ wsX3_start := by decide +kernel
theorem wX3_start_9 : Cond.fieldLink RX3 9 "TandemExchange$Member" "levels" "[I" ∈ wsX3_start := by decide +kernel
set_option maxRecDepth 100000 in
set_option maxHeartbeats 4000000 in
theorem bX3_start_6 {p : Program} {l : Launch} {e : Env} {s : State} {m : MethodId} {args : Array Value} {below : List Frame} {meth : Method} {c : Code} {D : va_G} {cy : Nat → ClassId} {ad : Nat → Nat} {ba : Nat} {O : Int64} {S : teS}  {k0 : Nat} {m0 : Nat} {x1 : Int32} {x2 : Int32} {x3 : Int32} {res : teS} (hk0 : k0 < 18) (hm0 : m0 < 9) (X : teC wsX3_start RX3 cX3_start 6 none D cy ba p s m args meth c) : ∀ (n : Nat), ∀ (S1 : teS) (v4 : Int32) (v5 : Int32) (H : Heap) (locs : List Loc) (ls : Array Slot), teR D cy ad ba O S1 H → va_S (teA ba) s.heap H locs → lv_has ls 6 [(0, .ref (ad (20 * k0 + 2 + m0))), (1, .int x1), (3, .int x3), (4, .int v4), (5, .int v5)] → fX3_start_6 k0 m0 x1 x2 x3 n S1 v4 v5 = some res → W p l e (headSpec wsX3_start rmX3_start).room s m args below meth c H locs 0 0 (MQ below (va_Qv (fun (u : teS) => u = res) (fun u t => teR D cy ad ba O u t.heap) (teA ba)) args s 0 0 (teA ba)) (F0 m 6 ls []) := by
  have hx := X.1
  have hb := X.2.1
  have hown := X.2.2.2.2.1
  intro n
  induction n with
  | zero =>
    intro S1 v4 v5 H locs ls hR hS hl hf
    exact nomatch hf
  | succ n ih =>
    intro S1 v4 v5 H locs ls hR hS hl hf
    unfold fX3_start_6 at hf
    refine lv_iload hx hb dX3_start_6 (lv_at hl 4 rfl) ?_
    refine lv_if_lt (tgt := 36) hx hb dX3_start_8 (by decide) (fun c_1 => ?_) (fun c_1 => ?_)
    · replace hf := ite_t c_1 hf
      refine lv_aload_n hx hb dX3_start_36 rfl (lv_at hl 0 rfl) ?_
      refine lv_iload_n hx hb dX3_start_37 rfl (lv_at hl 1 rfl) ?_
      refine rp_3_1 X hR hS hk0 hm0 iX3_start_3 wX3_start_21 dX3_start_38 (fun H locs hR hS => ?_)
      generalize teu S1 k0 (2 + 10 * m0 + 4) x1 = S2 at hf hR
      replace hf := lt1_e hf
      refine lv_aload_n hx hb dX3_start_41 rfl (lv_at hl 0 rfl) ?_
      refine lv_iconst (v := (0 : Int32)) hx hb dX3_start_42 (by decide) ?_
      refine rp_3_2 X hR hS hk0 hm0 iX3_start_3 wX3_start_25 dX3_start_43 (fun H locs hR hS => ?_)
      generalize teu S2 k0 (2 + 10 * m0 + 5) (0 : Int32) = S3 at hf hR
      replace hf := lt1_e hf
      refine lv_aload_n hx hb dX3_start_46 rfl (lv_at hl 0 rfl) ?_
      refine lv_iload_n hx hb dX3_start_47 rfl (lv_at hl 2 rfl) ?_
      refine rp_3_3 X hR hS hk0 hm0 iX3_start_3 wX3_start_28 dX3_start_48 (fun H locs hR hS => ?_)
      generalize teu S3 k0 (2 + 10 * m0 + 6) x3 = S4 at hf hR
      replace hf := lt1_e hf
      refine lv_aload_n hx hb dX3_start_51 rfl (lv_at hl 0 rfl) ?_
      refine lv_iconst (v := (0 : Int32)) hx hb dX3_start_52 (by decide) ?_
      refine rp_3_4 X hR hS hk0 hm0 iX3_start_3 wX3_start_31 dX3_start_53 (fun H locs hR hS => ?_)
      generalize teu S4 k0 (2 + 10 * m0 + 7) (0 : Int32) = S5 at hf hR
      replace hf := lt1_e hf
      refine lv_aload_n hx hb dX3_start_56 rfl (lv_at hl 0 rfl) ?_
      refine lv_sipush (v := (-9999 : Int32)) hx hb dX3_start_57 (by decide) ?_
      refine rp_3_5 X hR hS hk0 hm0 iX3_start_3 wX3_start_34 dX3_start_60 (fun H locs hR hS => ?_)
      generalize teu S5 k0 (2 + 10 * m0 + 8) (-9999 : Int32) = S6 at hf hR
      replace hf := lt1_e hf
      refine lv_aload_n hx hb dX3_start_63 rfl (lv_at hl 0 rfl) ?_
      refine lv_iconst (v := (0 : Int32)) hx hb dX3_start_64 (by decide) ?_
      refine rp_3_6 X hR hS hk0 hm0 iX3_start_3 wX3_start_37 dX3_start_65 (fun H locs hR hS => ?_)
      generalize teu S6 k0 (2 + 10 * m0 + 9) (0 : Int32) = S7 at hf hR
      replace hf := lt1_e hf
      exact eV X hR hS (Option.some.inj hf) dX3_start_68
    · replace hf := ite_f c_1 hf
      refine lv_aload_n hx hb dX3_start_11 rfl (lv_at hl 0 rfl) ?_
      refine rg_3_0 X hR hk0 hm0 iX3_start_3 wX3_start_9 dX3_start_12 ?_
      refine lv_iload hx hb dX3_start_15 (lv_at hl 4 rfl) ?_
      refine lv_iload hx hb dX3_start_17 (lv_at hl 3 rfl) ?_
      refine lv_bipush (v := (10 : Int32)) hx hb dX3_start_19 (by decide) ?_
      refine lv_irem hx hb dX3_start_21 (by decide) ?_
      obtain ⟨h_2, hf⟩ := chk_some hf
      refine rs_lev X hR hS hk0 hm0 h_2 dX3_start_22 (fun H locs hR hS => ?_)
      generalize teu S1 k0 (2 + 10 * m0 + v5.toNatClampNeg) (v4 - v4 / (10 : Int32) * (10 : Int32)) = S8 at hf hR
      replace hf := lt1_e hf
      refine lv_iload hx hb dX3_start_23 (lv_at hl 3 rfl) ?_
      refine lv_bipush (v := (10 : Int32)) hx hb dX3_start_25 (by decide) ?_
      refine lv_idiv hx hb dX3_start_27 (by decide) ?_
      refine lv_istore (lv' := [(4, .int (v4 / (10 : Int32))), (0, .ref (ad (20 * k0 + 2 + m0))), (1, .int x1), (3, .int x3), (5, .int v5)]) hx hb dX3_start_28 hl (by decide) rfl (fun ls hl => ?_)
      refine lv_iinc (v := (v5 + (-1 : Int32))) (lv' := [(5, .int (v5 + (-1 : Int32))), (4, .int (v4 / (10 : Int32))), (0, .ref (ad (20 * k0 + 2 + m0))), (1, .int x1), (3, .int x3)]) hx hb dX3_start_30 hl (k := 4) rfl rfl (by decide) rfl (fun ls hl => ?_)
      refine lv_goto (tgt := 6) hx hb dX3_start_33 (by decide) ?_
      exact ih S8 ((v4 / (10 : Int32))) ((v5 + (-1 : Int32))) _ _ _ hR hS (lv_sub hl [2, 3, 4, 1, 0] rfl) hf
set_option maxRecDepth 100000 in
set_option maxHeartbeats 4000000 in
theorem bX3_start_0 {p : Program} {l : Launch} {e : Env} {s : State} {m : MethodId} {args : Array Value} {below : List Frame} {meth : Method} {c : Code} {D : va_G} {cy : Nat → ClassId} {ad : Nat → Nat} {ba : Nat} {O : Int64} {S : teS}  {k0 : Nat} {m0 : Nat} {x1 : Int32} {x2 : Int32} {x3 : Int32} {res : teS} (hk0 : k0 < 18) (hm0 : m0 < 9) (X : teC wsX3_start RX3 cX3_start 6 none D cy ba p s m args meth c) (H : Heap) (locs : List Loc) (ls : Array Slot) (hR : teR D cy ad ba O S H) (hS : va_S (teA ba) s.heap H locs) (hl : lv_has ls 6 [(0, .ref (ad (20 * k0 + 2 + m0))), (1, .int x1), (2, .int x2), (3, .int x3)]) (hf : fX3_start k0 m0 x1 x2 x3 S = some res) : W p l e (headSpec wsX3_start rmX3_start).room s m args below meth c H locs 0 0 (MQ below (va_Qv (fun (u : teS) => u = res) (fun u t => teR D cy ad ba O u t.heap) (teA ba)) args s 0 0 (teA ba)) (F0 m 0 ls []) := by
  have hx := X.1
  have hb := X.2.1
  have hown := X.2.2.2.2.1
  unfold fX3_start at hf
  refine lv_iload_n hx hb dX3_start_0 rfl (lv_at hl 2 rfl) ?_
  refine lv_istore (lv' := [(4, .int x2), (0, .ref (ad (20 * k0 + 2 + m0))), (1, .int x1), (2, .int x2), (3, .int x3)]) hx hb dX3_start_1 hl (by decide) rfl (fun ls hl => ?_)
  refine lv_iconst (v := (3 : Int32)) hx hb dX3_start_3 (by decide) ?_
  refine lv_istore (lv' := [(5, .int (3 : Int32)), (4, .int x2), (0, .ref (ad (20 * k0 + 2 + m0))), (1, .int x1), (2, .int x2), (3, .int x3)]) hx hb dX3_start_4 hl (by decide) rfl (fun ls hl => ?_)
  exact bX3_start_6 (S := S) (k0 := k0) (m0 := m0) (x1 := x1) (x2 := x2) (x3 := x3) hk0 hm0 X 2000 S (x2) ((3 : Int32)) _ _ _ hR hS (lv_sub hl [2, 3, 5, 1, 0] rfl) hf
theorem zcX3_start (l : Launch) (D : va_G) (cy : Nat → ClassId) (ad : Nat → Nat) (ba : Nat) (O : Int64) (S : teS) (k0 : Nat) (m0 : Nat) (x1 : Int32) (x2 : Int32) (x3 : Int32) (hk0 : k0 < 18) (hm0 : m0 < 9) (res : teS) (hf : fX3_start k0 m0 x1 x2 x3 S = some res) : cV l yX3_start wsX3_start rmX3_start D cy ad ba O S [.ref (ad (20 * k0 + 2 + m0)), .int x1, .int x2, .int x3] res :=
  te_of (by decide) rfl (Nat.le_of_ble_eq_true rfl) (fun p e s m below meth c ls X hR hS hl => bX3_start_0 (S := S) (k0 := k0) (m0 := m0) (x1 := x1) (x2 := x2) (x3 := x3) hk0 hm0 X _ _ _ hR hS hl hf)
abbrev rmX3_gainCredits : Room := { frames := 1, cells := 0, slots := 0, locals := 24 }
theorem wX3_gainCredits_28 : Cond.fieldLink RX3 28 "TandemExchange$Member" "credits" "I" ∈ wsX3_gainCredits := by decide +kernel
theorem iX3_gainCredits_3 : ∀ w ∈ wsX30, w ∈ wsX3_gainCredits := fun _ h => List.mem_cons_of_mem _ (List.mem_append_right _ h)
theorem wX3_gainCredits_40 : Cond.methodLink RX3 40 Lib.Math.min.name ∈ wsX3_gainCredits := by decide +kernel
theorem wX3_gainCredits_mins : Cond.static Lib.Math.min.name ∈ wsX3_gainCredits := by decide +kernel
theorem wX3_gainCredits_mi : Cond.initialized "java/lang/Math" ∈ wsX3_gainCredits := by decide +kernel
theorem wX3_gainCredits_minc : Cond.code Lib.Math.min.name Lib.Math.min.code 2 (some .int) ∈ wsX3_gainCredits := by decide +kernel
theorem wX3_gainCredits_46 : Cond.methodLink RX3 46 Lib.Math.max.name ∈ wsX3_gainCredits := by decide +kernel
theorem wX3_gainCredits_maxs : Cond.static Lib.Math.max.name ∈ wsX3_gainCredits := by decide +kernel
theorem wX3_gainCredits_maxc : Cond.code Lib.Math.max.name Lib.Math.max.code 2 (some .int) ∈ wsX3_gainCredits := by decide +kernel
set_option maxRecDepth 100000 in
set_option maxHeartbeats 4000000 in
theorem bX3_gainCredits_0 {p : Program} {l : Launch} {e : Env} {s : State} {m : MethodId} {args : Array Value} {below : List Frame} {meth : Method} {c : Code} {D : va_G} {cy : Nat → ClassId} {ad : Nat → Nat} {ba : Nat} {O : Int64} {S : teS}  {k0 : Nat} {m0 : Nat} {x1 : Int32} {res : teS} (hk0 : k0 < 18) (hm0 : m0 < 9) (X : teC wsX3_gainCredits RX3 cX3_gainCredits 2 none D cy ba p s m args meth c) (H : Heap) (locs : List Loc) (ls : Array Slot) (hR : teR D cy ad ba O S H) (hS : va_S (teA ba) s.heap H locs) (hl : lv_has ls 2 [(0, .ref (ad (20 * k0 + 2 + m0))), (1, .int x1)]) (hf : fX3_gainCredits k0 m0 x1 S = some res) : W p l e (headSpec wsX3_gainCredits rmX3_gainCredits).room s m args below meth c H locs 0 0 (MQ below (va_Qv (fun (u : teS) => u = res) (fun u t => teR D cy ad ba O u t.heap) (teA ba)) args s 0 0 (teA ba)) (F0 m 0 ls []) := by
  have hx := X.1
  have hb := X.2.1
  have hown := X.2.2.2.2.1
  unfold fX3_gainCredits at hf
  refine lv_aload_n hx hb dX3_gainCredits_0 rfl (lv_at hl 0 rfl) ?_
  refine lv_bipush (v := (-99 : Int32)) hx hb dX3_gainCredits_1 (by decide) ?_
  refine lv_bipush (v := (99 : Int32)) hx hb dX3_gainCredits_3 (by decide) ?_
  refine lv_aload_n hx hb dX3_gainCredits_5 rfl (lv_at hl 0 rfl) ?_
  refine rg_3_3 X hR hk0 hm0 iX3_gainCredits_3 wX3_gainCredits_28 dX3_gainCredits_6 ?_
  refine lv_iload_n hx hb dX3_gainCredits_9 rfl (lv_at hl 1 rfl) ?_
  refine lv_iadd hx hb dX3_gainCredits_10 ?_
  refine va_mmin hx hb (X.2.2.1.trans hl.1.symm) hown (X.2.2.2.2.2.1 _ wX3_gainCredits_40) (X.2.2.2.2.2.1 _ wX3_gainCredits_mins) (X.2.2.2.2.2.1 _ wX3_gainCredits_mi) (X.2.2.2.2.2.1 _ wX3_gainCredits_minc) (Nat.le_of_ble_eq_true rfl) (by decide) (Nat.zero_le _) (Nat.zero_le _) dX3_gainCredits_11 ?_
  refine va_mmax hx hb (X.2.2.1.trans hl.1.symm) hown (X.2.2.2.2.2.1 _ wX3_gainCredits_46) (X.2.2.2.2.2.1 _ wX3_gainCredits_maxs) (X.2.2.2.2.2.1 _ wX3_gainCredits_mi) (X.2.2.2.2.2.1 _ wX3_gainCredits_maxc) (Nat.le_of_ble_eq_true rfl) (by decide) (Nat.zero_le _) (Nat.zero_le _) dX3_gainCredits_14 ?_
  refine rp_3_3 X hR hS hk0 hm0 iX3_gainCredits_3 wX3_gainCredits_28 dX3_gainCredits_17 (fun H locs hR hS => ?_)
  generalize teu S k0 (2 + 10 * m0 + 6) (if (-99 : Int32) < (if ((S k0 (2 + 10 * m0 + 6)) + x1) < (99 : Int32) then ((S k0 (2 + 10 * m0 + 6)) + x1) else (99 : Int32)) then (if ((S k0 (2 + 10 * m0 + 6)) + x1) < (99 : Int32) then ((S k0 (2 + 10 * m0 + 6)) + x1) else (99 : Int32)) else (-99 : Int32)) = S1 at hf hR
  replace hf := lt1_e hf
  exact eV X hR hS (Option.some.inj hf) dX3_gainCredits_20
theorem zcX3_gainCredits (l : Launch) (D : va_G) (cy : Nat → ClassId) (ad : Nat → Nat) (ba : Nat) (O : Int64) (S : teS) (k0 : Nat) (m0 : Nat) (x1 : Int32) (hk0 : k0 < 18) (hm0 : m0 < 9) (res : teS) (hf : fX3_gainCredits k0 m0 x1 S = some res) : cV l yX3_gainCredits wsX3_gainCredits rmX3_gainCredits D cy ad ba O S [.ref (ad (20 * k0 + 2 + m0)), .int x1] res :=
  te_of (by decide) rfl (Nat.le_of_ble_eq_true rfl) (fun p e s m below meth c ls X hR hS hl => bX3_gainCredits_0 (S := S) (k0 := k0) (m0 := m0) (x1 := x1) hk0 hm0 X _ _ _ hR hS hl hf)
theorem kdX3_gainCredits : yX3_gainCredits.cls = RX3 ∧ yX3_gainCredits.cls ≠ "java/lang/invoke/MethodHandle" ∧ yX3_gainCredits.cls ≠ "java/lang/invoke/VarHandle" ∧ (parseMethodDescriptor yX3_gainCredits.desc).map (fun d => d.parameters.length) = some 1 := by decide +kernel
abbrev rmX3_failToMeet : Room := { frames := 2, cells := 0, slots := 0, locals := 45 }
theorem wX3_failToMeet_37 : Cond.fieldLink RX3 37 "TandemExchange$Member" "missedInRow" "I" ∈ wsX3_failToMeet := by decide +kernel
theorem iX3_failToMeet_3 : ∀ w ∈ wsX30, w ∈ wsX3_failToMeet := fun _ h => List.mem_cons_of_mem _ (List.mem_append_right _ h)
theorem wX3_failToMeet_31 : Cond.fieldLink RX3 31 "TandemExchange$Member" "missed" "I" ∈ wsX3_failToMeet := by decide +kernel
set_option maxRecDepth 100000 in
set_option maxHeartbeats 4000000 in
theorem bX3_failToMeet_0 {p : Program} {l : Launch} {e : Env} {s : State} {m : MethodId} {args : Array Value} {below : List Frame} {meth : Method} {c : Code} {D : va_G} {cy : Nat → ClassId} {ad : Nat → Nat} {ba : Nat} {O : Int64} {S : teS}  {k0 : Nat} {m0 : Nat} {x1 : Int32} {res : teS} (hk0 : k0 < 18) (hm0 : m0 < 9) (X : teC wsX3_failToMeet RX3 cX3_failToMeet 2 none D cy ba p s m args meth c) (H : Heap) (locs : List Loc) (ls : Array Slot) (hR : teR D cy ad ba O S H) (hS : va_S (teA ba) s.heap H locs) (hl : lv_has ls 2 [(0, .ref (ad (20 * k0 + 2 + m0))), (1, .int x1)]) (hf : fX3_failToMeet k0 m0 x1 S = some res) : W p l e (headSpec wsX3_failToMeet rmX3_failToMeet).room s m args below meth c H locs 0 0 (MQ below (va_Qv (fun (u : teS) => u = res) (fun u t => teR D cy ad ba O u t.heap) (teA ba)) args s 0 0 (teA ba)) (F0 m 0 ls []) := by
  have hx := X.1
  have hb := X.2.1
  have hown := X.2.2.2.2.1
  unfold fX3_failToMeet at hf
  refine lv_aload_n hx hb dX3_failToMeet_0 rfl (lv_at hl 0 rfl) ?_
  refine lv_dup hx hb dX3_failToMeet_1 rfl ?_
  refine rg_3_6 X hR hk0 hm0 iX3_failToMeet_3 wX3_failToMeet_37 dX3_failToMeet_2 ?_
  refine lv_iconst (v := (1 : Int32)) hx hb dX3_failToMeet_5 (by decide) ?_
  refine lv_iadd hx hb dX3_failToMeet_6 ?_
  refine rp_3_6 X hR hS hk0 hm0 iX3_failToMeet_3 wX3_failToMeet_37 dX3_failToMeet_7 (fun H locs hR hS => ?_)
  generalize teu S k0 (2 + 10 * m0 + 9) ((S k0 (2 + 10 * m0 + 9)) + (1 : Int32)) = S1 at hf hR
  replace hf := lt1_e hf
  refine lv_iload_n hx hb dX3_failToMeet_10 rfl (lv_at hl 1 rfl) ?_
  refine lv_if_eq (tgt := 33) hx hb dX3_failToMeet_11 (by decide) (fun c_1 => ?_) (fun c_1 => ?_)
  · replace hf := ite_t c_1 hf
    refine lv_aload_n hx hb dX3_failToMeet_33 rfl (lv_at hl 0 rfl) ?_
    refine lv_iconst (v := (2 : Int32)) hx hb dX3_failToMeet_34 (by decide) ?_
    obtain ⟨S2, hq_3, hf⟩ := bd1_some hf
    refine kVv (id := (20 * k0 + 2 + m0)) (As := [.int (2 : Int32)]) (rest := []) X hR hS (zcX3_gainCredits l D cy ad ba O S1 k0 m0 (2 : Int32) hk0 hm0 _ hq_3) (cwV 1 X.2.2.2.2.2.1 gX3_failToMeet_X3_gainCredits rfl rfl rfl kdX3_gainCredits ⟨(Nat.le_of_ble_eq_true rfl), (Nat.le_of_ble_eq_true rfl)⟩) (by omega) (teE_memb cy ad O S1 hk0 hm0) rfl rfl rfl hl.1 (by decide) ⟨(Nat.le_of_ble_eq_true rfl), (Nat.le_of_ble_eq_true rfl)⟩ dX3_failToMeet_35 (fun H locs hR hS => ?_)
    exact eV X hR hS (Option.some.inj hf) dX3_failToMeet_38
  · replace hf := ite_f c_1 hf
    refine lv_aload_n hx hb dX3_failToMeet_14 rfl (lv_at hl 0 rfl) ?_
    refine lv_dup hx hb dX3_failToMeet_15 rfl ?_
    refine rg_3_4 X hR hk0 hm0 iX3_failToMeet_3 wX3_failToMeet_31 dX3_failToMeet_16 ?_
    refine lv_iconst (v := (1 : Int32)) hx hb dX3_failToMeet_19 (by decide) ?_
    refine lv_iadd hx hb dX3_failToMeet_20 ?_
    refine rp_3_4 X hR hS hk0 hm0 iX3_failToMeet_3 wX3_failToMeet_31 dX3_failToMeet_21 (fun H locs hR hS => ?_)
    generalize teu S1 k0 (2 + 10 * m0 + 7) ((S1 k0 (2 + 10 * m0 + 7)) + (1 : Int32)) = S3 at hf hR
    replace hf := lt1_e hf
    refine lv_aload_n hx hb dX3_failToMeet_24 rfl (lv_at hl 0 rfl) ?_
    refine lv_bipush (v := (-3 : Int32)) hx hb dX3_failToMeet_25 (by decide) ?_
    obtain ⟨S4, hq_5, hf⟩ := bd1_some hf
    refine kVv (id := (20 * k0 + 2 + m0)) (As := [.int (-3 : Int32)]) (rest := []) X hR hS (zcX3_gainCredits l D cy ad ba O S3 k0 m0 (-3 : Int32) hk0 hm0 _ hq_5) (cwV 1 X.2.2.2.2.2.1 gX3_failToMeet_X3_gainCredits rfl rfl rfl kdX3_gainCredits ⟨(Nat.le_of_ble_eq_true rfl), (Nat.le_of_ble_eq_true rfl)⟩) (by omega) (teE_memb cy ad O S3 hk0 hm0) rfl rfl rfl hl.1 (by decide) ⟨(Nat.le_of_ble_eq_true rfl), (Nat.le_of_ble_eq_true rfl)⟩ dX3_failToMeet_27 (fun H locs hR hS => ?_)
    refine lv_goto (tgt := 38) hx hb dX3_failToMeet_30 (by decide) ?_
    exact eV X hR hS (Option.some.inj hf) dX3_failToMeet_38
theorem zcX3_failToMeet (l : Launch) (D : va_G) (cy : Nat → ClassId) (ad : Nat → Nat) (ba : Nat) (O : Int64) (S : teS) (k0 : Nat) (m0 : Nat) (x1 : Int32) (hk0 : k0 < 18) (hm0 : m0 < 9) (res : teS) (hf : fX3_failToMeet k0 m0 x1 S = some res) : cV l yX3_failToMeet wsX3_failToMeet rmX3_failToMeet D cy ad ba O S [.ref (ad (20 * k0 + 2 + m0)), .int x1] res :=
  te_of (by decide) rfl (Nat.le_of_ble_eq_true rfl) (fun p e s m below meth c ls X hR hS hl => bX3_failToMeet_0 (S := S) (k0 := k0) (m0 := m0) (x1 := x1) hk0 hm0 X _ _ _ hR hS hl hf)
abbrev rmX3_learn : Room := { frames := 0, cells := 0, slots := 0, locals := 0 }
theorem wX3_learn_25 : Cond.fieldLink RX3 25 "TandemExchange$Member" "progress" "I" ∈ wsX3_learn := by decide +kernel
theorem iX3_learn_3 : ∀ w ∈ wsX30, w ∈ wsX3_learn := fun _ h => List.mem_cons_of_mem _ (List.mem_append_right _ h)
theorem wX3_learn_9 : Cond.fieldLink RX3 9 "TandemExchange$Member" "levels" "[I" ∈ wsX3_learn := by decide +kernel
theorem wX3_learn_21 : Cond.fieldLink RX3 21 "TandemExchange$Member" "wants" "I" ∈ wsX3_learn := by decide +kernel
set_option maxRecDepth 100000 in
set_option maxHeartbeats 4000000 in
theorem bX3_learn_57 {p : Program} {l : Launch} {e : Env} {s : State} {m : MethodId} {args : Array Value} {below : List Frame} {meth : Method} {c : Code} {D : va_G} {cy : Nat → ClassId} {ad : Nat → Nat} {ba : Nat} {O : Int64} {S : teS}  {k0 : Nat} {m0 : Nat} {x1 : Int32} {res : teS} (hk0 : k0 < 18) (hm0 : m0 < 9) (X : teC wsX3_learn RX3 cX3_learn 2 none D cy ba p s m args meth c) : ∀ (S1 : teS) (H : Heap) (locs : List Loc) (ls : Array Slot), teR D cy ad ba O S1 H → va_S (teA ba) s.heap H locs → lv_has ls 2 [(0, .ref (ad (20 * k0 + 2 + m0)))] → fX3_learn_57 k0 m0 x1 S1 = some res → W p l e (headSpec wsX3_learn rmX3_learn).room s m args below meth c H locs 0 0 (MQ below (va_Qv (fun (u : teS) => u = res) (fun u t => teR D cy ad ba O u t.heap) (teA ba)) args s 0 0 (teA ba)) (F0 m 57 ls []) := by
  have hx := X.1
  have hb := X.2.1
  have hown := X.2.2.2.2.1
  intro S1 H locs ls hR hS hl hf
  unfold fX3_learn_57 at hf
  refine lv_aload_n hx hb dX3_learn_57 rfl (lv_at hl 0 rfl) ?_
  refine rg_3_0 X hR hk0 hm0 iX3_learn_3 wX3_learn_9 dX3_learn_58 ?_
  refine lv_aload_n hx hb dX3_learn_61 rfl (lv_at hl 0 rfl) ?_
  refine rg_3_1 X hR hk0 hm0 iX3_learn_3 wX3_learn_21 dX3_learn_62 ?_
  obtain ⟨h_4, hf⟩ := chk_some hf
  refine ra_lev X hR hk0 hm0 h_4 dX3_learn_65 ?_
  refine lv_bipush (v := (9 : Int32)) hx hb dX3_learn_66 (by decide) ?_
  refine lv_icmp_ne (tgt := 76) hx hb dX3_learn_68 (by decide) (fun c_5 => ?_) (fun c_5 => ?_)
  · replace hf := ite_f c_5 hf
    exact eV X hR hS (Option.some.inj hf) dX3_learn_76
  · replace hf := ite_t c_5 hf
    refine lv_aload_n hx hb dX3_learn_71 rfl (lv_at hl 0 rfl) ?_
    refine lv_iconst (v := (0 : Int32)) hx hb dX3_learn_72 (by decide) ?_
    refine rp_3_2 X hR hS hk0 hm0 iX3_learn_3 wX3_learn_25 dX3_learn_73 (fun H locs hR hS => ?_)
    generalize teu S1 k0 (2 + 10 * m0 + 5) (0 : Int32) = S2 at hf hR
    replace hf := lt1_e hf
    exact eV X hR hS (Option.some.inj hf) dX3_learn_76
set_option maxRecDepth 100000 in
set_option maxHeartbeats 4000000 in
theorem bX3_learn_0 {p : Program} {l : Launch} {e : Env} {s : State} {m : MethodId} {args : Array Value} {below : List Frame} {meth : Method} {c : Code} {D : va_G} {cy : Nat → ClassId} {ad : Nat → Nat} {ba : Nat} {O : Int64} {S : teS}  {k0 : Nat} {m0 : Nat} {x1 : Int32} {res : teS} (hk0 : k0 < 18) (hm0 : m0 < 9) (X : teC wsX3_learn RX3 cX3_learn 2 none D cy ba p s m args meth c) (H : Heap) (locs : List Loc) (ls : Array Slot) (hR : teR D cy ad ba O S H) (hS : va_S (teA ba) s.heap H locs) (hl : lv_has ls 2 [(0, .ref (ad (20 * k0 + 2 + m0))), (1, .int x1)]) (hf : fX3_learn k0 m0 x1 S = some res) : W p l e (headSpec wsX3_learn rmX3_learn).room s m args below meth c H locs 0 0 (MQ below (va_Qv (fun (u : teS) => u = res) (fun u t => teR D cy ad ba O u t.heap) (teA ba)) args s 0 0 (teA ba)) (F0 m 0 ls []) := by
  have hx := X.1
  have hb := X.2.1
  have hown := X.2.2.2.2.1
  unfold fX3_learn at hf
  refine lv_aload_n hx hb dX3_learn_0 rfl (lv_at hl 0 rfl) ?_
  refine lv_dup hx hb dX3_learn_1 rfl ?_
  refine rg_3_2 X hR hk0 hm0 iX3_learn_3 wX3_learn_25 dX3_learn_2 ?_
  refine lv_iload_n hx hb dX3_learn_5 rfl (lv_at hl 1 rfl) ?_
  refine lv_iadd hx hb dX3_learn_6 ?_
  refine rp_3_2 X hR hS hk0 hm0 iX3_learn_3 wX3_learn_25 dX3_learn_7 (fun H locs hR hS => ?_)
  generalize teu S k0 (2 + 10 * m0 + 5) ((S k0 (2 + 10 * m0 + 5)) + x1) = S1 at hf hR
  replace hf := lt1_e hf
  refine lv_aload_n hx hb dX3_learn_10 rfl (lv_at hl 0 rfl) ?_
  refine rg_3_2 X hR hk0 hm0 iX3_learn_3 wX3_learn_25 dX3_learn_11 ?_
  refine lv_bipush (v := (20 : Int32)) hx hb dX3_learn_14 (by decide) ?_
  refine lv_icmp_lt (tgt := 57) hx hb dX3_learn_16 (by decide) (fun c_1 => ?_) (fun c_1 => ?_)
  · replace hf := ite_t c_1 hf
    exact bX3_learn_57 (S := S) (k0 := k0) (m0 := m0) (x1 := x1) hk0 hm0 X S1 _ _ _ hR hS (lv_sub hl [0] rfl) hf
  · replace hf := ite_f c_1 hf
    refine lv_aload_n hx hb dX3_learn_19 rfl (lv_at hl 0 rfl) ?_
    refine rg_3_0 X hR hk0 hm0 iX3_learn_3 wX3_learn_9 dX3_learn_20 ?_
    refine lv_aload_n hx hb dX3_learn_23 rfl (lv_at hl 0 rfl) ?_
    refine rg_3_1 X hR hk0 hm0 iX3_learn_3 wX3_learn_21 dX3_learn_24 ?_
    obtain ⟨h_2, hf⟩ := chk_some hf
    refine ra_lev X hR hk0 hm0 h_2 dX3_learn_27 ?_
    refine lv_bipush (v := (9 : Int32)) hx hb dX3_learn_28 (by decide) ?_
    refine lv_icmp_ge (tgt := 57) hx hb dX3_learn_30 (by decide) (fun c_3 => ?_) (fun c_3 => ?_)
    · replace hf := ite_t c_3 hf
      exact bX3_learn_57 (S := S) (k0 := k0) (m0 := m0) (x1 := x1) hk0 hm0 X S1 _ _ _ hR hS (lv_sub hl [0] rfl) hf
    · replace hf := ite_f c_3 hf
      refine lv_aload_n hx hb dX3_learn_33 rfl (lv_at hl 0 rfl) ?_
      refine rg_3_0 X hR hk0 hm0 iX3_learn_3 wX3_learn_9 dX3_learn_34 ?_
      refine lv_aload_n hx hb dX3_learn_37 rfl (lv_at hl 0 rfl) ?_
      refine rg_3_1 X hR hk0 hm0 iX3_learn_3 wX3_learn_21 dX3_learn_38 ?_
      refine lv_dup2_11 hx hb dX3_learn_41 rfl rfl ?_
      refine ra_lev X hR hk0 hm0 h_2 dX3_learn_42 ?_
      refine lv_iconst (v := (1 : Int32)) hx hb dX3_learn_43 (by decide) ?_
      refine lv_iadd hx hb dX3_learn_44 ?_
      refine rs_lev X hR hS hk0 hm0 h_2 dX3_learn_45 (fun H locs hR hS => ?_)
      generalize teu S1 k0 (2 + 10 * m0 + (S1 k0 (2 + 10 * m0 + 4)).toNatClampNeg) ((S1 k0 (2 + 10 * m0 + (S1 k0 (2 + 10 * m0 + 4)).toNatClampNeg)) + (1 : Int32)) = S2 at hf hR
      replace hf := lt1_e hf
      refine lv_aload_n hx hb dX3_learn_46 rfl (lv_at hl 0 rfl) ?_
      refine lv_dup hx hb dX3_learn_47 rfl ?_
      refine rg_3_2 X hR hk0 hm0 iX3_learn_3 wX3_learn_25 dX3_learn_48 ?_
      refine lv_bipush (v := (20 : Int32)) hx hb dX3_learn_51 (by decide) ?_
      refine lv_isub hx hb dX3_learn_53 ?_
      refine rp_3_2 X hR hS hk0 hm0 iX3_learn_3 wX3_learn_25 dX3_learn_54 (fun H locs hR hS => ?_)
      generalize teu S2 k0 (2 + 10 * m0 + 5) ((S2 k0 (2 + 10 * m0 + 5)) - (20 : Int32)) = S3 at hf hR
      replace hf := lt1_e hf
      exact bX3_learn_57 (S := S) (k0 := k0) (m0 := m0) (x1 := x1) hk0 hm0 X S3 _ _ _ hR hS (lv_sub hl [0] rfl) hf
theorem zcX3_learn (l : Launch) (D : va_G) (cy : Nat → ClassId) (ad : Nat → Nat) (ba : Nat) (O : Int64) (S : teS) (k0 : Nat) (m0 : Nat) (x1 : Int32) (hk0 : k0 < 18) (hm0 : m0 < 9) (res : teS) (hf : fX3_learn k0 m0 x1 S = some res) : cV l yX3_learn wsX3_learn rmX3_learn D cy ad ba O S [.ref (ad (20 * k0 + 2 + m0)), .int x1] res :=
  te_of (by decide) rfl (Nat.le_of_ble_eq_true rfl) (fun p e s m below meth c ls X hR hS hl => bX3_learn_0 (S := S) (k0 := k0) (m0 := m0) (x1 := x1) hk0 hm0 X _ _ _ hR hS hl hf)
theorem kdX3_learn : yX3_learn.cls = RX3 ∧ yX3_learn.cls ≠ "java/lang/invoke/MethodHandle" ∧ yX3_learn.cls ≠ "java/lang/invoke/VarHandle" ∧ (parseMethodDescriptor yX3_learn.desc).map (fun d => d.parameters.length) = some 1 := by decide +kernel
abbrev rmX3_meet : Room := { frames := 2, cells := 0, slots := 0, locals := 45 }
theorem wX3_meet_37 : Cond.fieldLink RX3 37 "TandemExchange$Member" "missedInRow" "I" ∈ wsX3_meet := by decide +kernel
theorem iX3_meet_3 : ∀ w ∈ wsX30, w ∈ wsX3_meet := fun _ h => List.mem_cons_of_mem _ (List.mem_append_right _ h)
set_option maxRecDepth 100000 in
set_option maxHeartbeats 4000000 in
theorem bX3_meet_0 {p : Program} {l : Launch} {e : Env} {s : State} {m : MethodId} {args : Array Value} {below : List Frame} {meth : Method} {c : Code} {D : va_G} {cy : Nat → ClassId} {ad : Nat → Nat} {ba : Nat} {O : Int64} {S : teS}  {k0 : Nat} {m0 : Nat} {x1 : Int32} {res : teS} (hk0 : k0 < 18) (hm0 : m0 < 9) (X : teC wsX3_meet RX3 cX3_meet 2 none D cy ba p s m args meth c) (H : Heap) (locs : List Loc) (ls : Array Slot) (hR : teR D cy ad ba O S H) (hS : va_S (teA ba) s.heap H locs) (hl : lv_has ls 2 [(0, .ref (ad (20 * k0 + 2 + m0))), (1, .int x1)]) (hf : fX3_meet k0 m0 x1 S = some res) : W p l e (headSpec wsX3_meet rmX3_meet).room s m args below meth c H locs 0 0 (MQ below (va_Qv (fun (u : teS) => u = res) (fun u t => teR D cy ad ba O u t.heap) (teA ba)) args s 0 0 (teA ba)) (F0 m 0 ls []) := by
  have hx := X.1
  have hb := X.2.1
  have hown := X.2.2.2.2.1
  unfold fX3_meet at hf
  refine lv_aload_n hx hb dX3_meet_0 rfl (lv_at hl 0 rfl) ?_
  refine lv_iconst (v := (0 : Int32)) hx hb dX3_meet_1 (by decide) ?_
  refine rp_3_6 X hR hS hk0 hm0 iX3_meet_3 wX3_meet_37 dX3_meet_2 (fun H locs hR hS => ?_)
  generalize teu S k0 (2 + 10 * m0 + 9) (0 : Int32) = S1 at hf hR
  replace hf := lt1_e hf
  refine lv_aload_n hx hb dX3_meet_5 rfl (lv_at hl 0 rfl) ?_
  refine lv_iconst (v := (1 : Int32)) hx hb dX3_meet_6 (by decide) ?_
  obtain ⟨S2, hq_2, hf⟩ := bd1_some hf
  refine kVv (id := (20 * k0 + 2 + m0)) (As := [.int (1 : Int32)]) (rest := []) X hR hS (zcX3_gainCredits l D cy ad ba O S1 k0 m0 (1 : Int32) hk0 hm0 _ hq_2) (cwV 1 X.2.2.2.2.2.1 gX3_meet_X3_gainCredits rfl rfl rfl kdX3_gainCredits ⟨(Nat.le_of_ble_eq_true rfl), (Nat.le_of_ble_eq_true rfl)⟩) (by omega) (teE_memb cy ad O S1 hk0 hm0) rfl rfl rfl hl.1 (by decide) ⟨(Nat.le_of_ble_eq_true rfl), (Nat.le_of_ble_eq_true rfl)⟩ dX3_meet_7 (fun H locs hR hS => ?_)
  refine lv_aload_n hx hb dX3_meet_10 rfl (lv_at hl 0 rfl) ?_
  refine lv_iload_n hx hb dX3_meet_11 rfl (lv_at hl 1 rfl) ?_
  obtain ⟨S3, hq_4, hf⟩ := bd1_some hf
  refine kVv (id := (20 * k0 + 2 + m0)) (As := [.int x1]) (rest := []) X hR hS (zcX3_learn l D cy ad ba O S2 k0 m0 x1 hk0 hm0 _ hq_4) (cwV 1 X.2.2.2.2.2.1 gX3_meet_X3_learn rfl rfl rfl kdX3_learn ⟨(Nat.le_of_ble_eq_true rfl), (Nat.le_of_ble_eq_true rfl)⟩) (by omega) (teE_memb cy ad O S2 hk0 hm0) rfl rfl rfl hl.1 (by decide) ⟨(Nat.le_of_ble_eq_true rfl), (Nat.le_of_ble_eq_true rfl)⟩ dX3_meet_12 (fun H locs hR hS => ?_)
  exact eV X hR hS (Option.some.inj hf) dX3_meet_15
theorem zcX3_meet (l : Launch) (D : va_G) (cy : Nat → ClassId) (ad : Nat → Nat) (ba : Nat) (O : Int64) (S : teS) (k0 : Nat) (m0 : Nat) (x1 : Int32) (hk0 : k0 < 18) (hm0 : m0 < 9) (res : teS) (hf : fX3_meet k0 m0 x1 S = some res) : cV l yX3_meet wsX3_meet rmX3_meet D cy ad ba O S [.ref (ad (20 * k0 + 2 + m0)), .int x1] res :=
  te_of (by decide) rfl (Nat.le_of_ble_eq_true rfl) (fun p e s m below meth c ls X hR hS hl => bX3_meet_0 (S := S) (k0 := k0) (m0 := m0) (x1 := x1) hk0 hm0 X _ _ _ hR hS hl hf)
abbrev rmX3_wantedLevel : Room := { frames := 0, cells := 0, slots := 0, locals := 0 }
theorem wX3_wantedLevel_9 : Cond.fieldLink RX3 9 "TandemExchange$Member" "levels" "[I" ∈ wsX3_wantedLevel := by decide +kernel
theorem iX3_wantedLevel_3 : ∀ w ∈ wsX30, w ∈ wsX3_wantedLevel := fun _ h => List.mem_cons_of_mem _ (List.mem_append_right _ h)
theorem wX3_wantedLevel_21 : Cond.fieldLink RX3 21 "TandemExchange$Member" "wants" "I" ∈ wsX3_wantedLevel := by decide +kernel
set_option maxRecDepth 100000 in
set_option maxHeartbeats 4000000 in
theorem bX3_wantedLevel_0 {p : Program} {l : Launch} {e : Env} {s : State} {m : MethodId} {args : Array Value} {below : List Frame} {meth : Method} {c : Code} {D : va_G} {cy : Nat → ClassId} {ad : Nat → Nat} {ba : Nat} {O : Int64} {S : teS}  {k0 : Nat} {m0 : Nat} {res : Int32} (hk0 : k0 < 18) (hm0 : m0 < 9) (X : teC wsX3_wantedLevel RX3 cX3_wantedLevel 1 (some .int) D cy ba p s m args meth c) (H : Heap) (locs : List Loc) (ls : Array Slot) (hR : teR D cy ad ba O S H) (hS : va_S (teA ba) s.heap H locs) (hl : lv_has ls 1 [(0, .ref (ad (20 * k0 + 2 + m0)))]) (hf : fX3_wantedLevel k0 m0 S = some res) : W p l e (headSpec wsX3_wantedLevel rmX3_wantedLevel).room s m args below meth c H locs 0 0 (MQ below (va_Qi (fun a (u : teS) => a = res ∧ u = S) (fun u t => teR D cy ad ba O u t.heap) (teA ba)) args s 0 0 (teA ba)) (F0 m 0 ls []) := by
  have hx := X.1
  have hb := X.2.1
  have hown := X.2.2.2.2.1
  unfold fX3_wantedLevel at hf
  refine lv_aload_n hx hb dX3_wantedLevel_0 rfl (lv_at hl 0 rfl) ?_
  refine rg_3_0 X hR hk0 hm0 iX3_wantedLevel_3 wX3_wantedLevel_9 dX3_wantedLevel_1 ?_
  refine lv_aload_n hx hb dX3_wantedLevel_4 rfl (lv_at hl 0 rfl) ?_
  refine rg_3_1 X hR hk0 hm0 iX3_wantedLevel_3 wX3_wantedLevel_21 dX3_wantedLevel_5 ?_
  obtain ⟨h_1, hf⟩ := chk_some hf
  refine ra_lev X hR hk0 hm0 h_1 dX3_wantedLevel_8 ?_
  exact eI X hR hS (Option.some.inj hf) rfl dX3_wantedLevel_9
theorem zcX3_wantedLevel (l : Launch) (D : va_G) (cy : Nat → ClassId) (ad : Nat → Nat) (ba : Nat) (O : Int64) (S : teS) (k0 : Nat) (m0 : Nat) (hk0 : k0 < 18) (hm0 : m0 < 9) (res : Int32) (hf : fX3_wantedLevel k0 m0 S = some res) : cI l yX3_wantedLevel wsX3_wantedLevel rmX3_wantedLevel D cy ad ba O S [.ref (ad (20 * k0 + 2 + m0))] res S :=
  te_of (by decide) rfl (Nat.le_of_ble_eq_true rfl) (fun p e s m below meth c ls X hR hS hl => bX3_wantedLevel_0 (S := S) (k0 := k0) (m0 := m0) hk0 hm0 X _ _ _ hR hS hl hf)
end
