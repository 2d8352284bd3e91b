/-! THE LAW'S OWN METHODS: worlds of one or two objects, the script, a row of ints -/
def aR (D : va_G) (cy : Nat → ClassId) (ad : Nat → Nat) (ba : Nat → Prop) (z : aS) (H : Heap) : Prop := (∀ q, ba q → q < H.size) ∧ ∃ S, AB S z ∧ teR D cy ad ba 0 S H
theorem aR_in {D : va_G} {cy : Nat → ClassId} {ad : Nat → Nat} {ba : Nat → Prop} {z : aS} {H : Heap} (h : aR D cy ad ba z H) {q : Nat} (hq : ba q) (hs : H.size ≤ q) : False := absurd (h.1 q hq) (Nat.not_lt.mpr hs)
theorem aR_kept {D : va_G} {cy : Nat → ClassId} {ad : Nat → Nat} {ba : Nat → Prop} {z : aS} {H H1 : Heap} (h : aR D cy ad ba z H) (hk : ∀ q, q < H.size → ba q → H1[q]? = H[q]?) : aR D cy ad ba z H1 := by
  obtain ⟨hb, S, hA, L, f, hP, hD, hc, hi, -⟩ := h
  exact ⟨fun q hq => (Array.getElem?_eq_some_iff.mp ((hk q (hb q hq) hq).trans (Array.getElem?_eq_getElem (hb q hq)))).1, S, hA, L, f, fun k q hq => (hP k q hq).kept (hk q.1 (hP k q hq).lt (hD.2 k q hq)), hD, hc, hi, Nat.zero_le _⟩
/-- a row of ints made by the law -/
def aW (cy : Nat → ClassId) (w n : Nat) (f : Nat → Int32) (H : Heap) : Prop := H[w]? = some (arrV (cy 0) n fun j => .int (f j))
theorem aW_lt {cy : Nat → ClassId} {w n : Nat} {f : Nat → Int32} {H : Heap} (h : aW cy w n f H) : w < H.size := (Array.getElem?_eq_some_iff.mp h).1
/-- the script, where a method reads it -/
def aX (sx : Bool) (b L : Nat) (xs : Nat → Int32) (U : State) (H : Heap) : Prop := sx = true → va_X b L xs U H ∧ b < H.size
theorem aX_no {b L : Nat} {xs : Nat → Int32} {U : State} {H : Heap} : aX false b L xs U H := fun h => by cases h
theorem teF_narrow {A B : Nat → Prop} {s : State} {H : Heap} (h : teF A s H) (hAB : ∀ q, B q → A q) : teF B s H := ⟨h.1.narrow hAB, h.2.1.narrow hAB, h.2.2.1, h.2.2.2.1, h.2.2.2.2⟩
def aU (D : va_G) (cy : Nat → ClassId) (A : Nat → Prop) (Wd : Heap → Prop) (sx : Bool) (b L : Nat) (xs : Nat → Int32) (U : State) : Prop := va_K D vwCl (teT cy) U ∧ teF A U U.heap ∧ Wd U.heap ∧ aX sx b L xs U U.heap
/-- contracts: a method that catches; any other one -/
abbrev aI (l : Launch) (y : MethodName) (ws : List Cond) (rm : Room) (mc ms : Nat) (D : va_G) (cy : Nat → ClassId) (A : Nat → Prop) (Wd : Heap → Prop) (av : List Value) (r : Int32) (Wd1 : Heap → Prop) : Prop :=
  vx_Met l y ws rm (va_Pc av (aU D cy A Wd false 0 0 (fun _ => 0))) (va_Qi (fun a (_ : Unit) => a = r) (fun _ t => Wd1 t.heap) A) (vx_X (fun _ : Unit => False) (fun _ _ _ => True) A) mc ms A
abbrev aJ (l : Launch) (y : MethodName) (ws : List Cond) (rm : Room) (mc ms : Nat) (D : va_G) (cy : Nat → ClassId) (A : Nat → Prop) (Wd : Heap → Prop) (sx : Bool) (b L : Nat) (xs : Nat → Int32) (av : List Value) (r : Int32) (Wd1 : Heap → Prop) : Prop :=
  Met l y ws rm (va_Pc av (aU D cy A Wd sx b L xs)) (va_Qi (fun a (_ : Unit) => a = r) (fun _ t => Wd1 t.heap) A) mc ms A
theorem aU_blind {D : va_G} {cy : Nat → ClassId} {A : Nat → Prop} {Wd : Heap → Prop} {sx : Bool} {b L : Nat} {xs : Nat → Int32} {av : List Value} : FrameBlind (va_Pc av (aU D cy A Wd sx b L xs)) := by
  intro a U g mk q
  obtain ⟨q1, qK, ⟨f1, f2, f3, f4, f5⟩, qR, qX⟩ := q
  have hal : U.vm.Alike (U.calling g mk a).vm := Vm.Alike.refl U.vm
  exact ⟨q1, va_K.moved (u := U) (U := U.calling g mk a) hal qK, ⟨vx_Zq.moved (U := U.calling g mk a) hal f1, vx_Zq.moved (U := U.calling g mk a) hal f2, ⟨va_Nw.same rfl (u := U) (U := U.calling g mk a) rfl f3.1, va_Nw.same rfl (u := U) (U := U.calling g mk a) rfl f3.2.1, va_Nw.same rfl (u := U) (U := U.calling g mk a) rfl f3.2.2.1, fun i j h1 h2 h3 h4 h5 => va_Nc.moved (U := U.calling g mk a) hal (f3.2.2.2.1 i j h1 h2 h3 h4 h5), fun Y hY => va_Nw.same rfl (u := U) (U := U.calling g mk a) rfl (f3.2.2.2.2 Y hY)⟩, fun q hq => (f4 q hq).elim fun sa z => ⟨sa, vk_R.same (u := U) (U := U.calling g mk a) rfl z⟩, f5⟩, qR, fun h => ⟨va_X.moved (u := U) (U := U.calling g mk a) hal (qX h).1, (qX h).2⟩⟩
/-- a contract about the numbers gives one about what they tell -/
theorem aI_of {l : Launch} {y : MethodName} {ws : List Cond} {rm : Room} {mc ms : Nat} {D : va_G} {cy : Nat → ClassId} {ad : Nat → Nat} {ba : Nat → Prop} {z z1 : aS} {av : List Value} {r : Int32} (h : ∀ S, AB S z → ∃ S1, AB S1 z1 ∧ lT l y ws rm mc ms D cy ad ba 0 S av (r, S1)) : aI l y ws rm mc ms D cy ba (aR D cy ad ba z) av r (aR D cy ad ba z1) := by
  intro p e ha hc hk s m args below hf hap hP _
  obtain ⟨q1, qK, qF, ⟨hb, S, hA, hR⟩, -⟩ := hP
  obtain ⟨S1, hA1, hM⟩ := h S hA
  obtain ⟨n, o, h1, h2, h3, h4⟩ := hM p e ha hc hk s m args below hf hap ⟨q1, qK, qF, hR⟩ trivial
  refine ⟨n, o, h1, h2, h3, ?_⟩
  rcases h4 with ⟨⟨⟨r2, u, ho, ⟨rfl, rfl⟩, hR2⟩, hF2⟩, hL⟩ | ⟨q, ho, E, ce, L, ⟨u, hu, -⟩, -⟩
  · exact Or.inl ⟨⟨⟨_, (), ho, rfl, fun q hq => Nat.lt_of_lt_of_le (hb q hq) hF2.1, _, hA1, hR2⟩, hF2⟩, hL⟩
  · exact hu.elim
section ALAW
variable {p : Program} {l : Launch} {e : Env} {R : Room} {s : State} {m : MethodId} {args : Array Value} {below : List Frame} {meth : Method} {c : Code} {H : Heap} {locs : List Loc} {cells slots : Nat} {Q : State → Prop}
variable {Ts : List Cond} {own : String} {cc : ByteArray} {nL : Nat} {ret : Option FieldType} {D : va_G} {cy : Nat → ClassId} {ad : Nat → Nat} {ba A0 A1 : Nat → Prop} {Wd Wd1 : Heap → Prop} {sx : Bool} {b L : Nat} {xs : Nat → Int32} {pc : Nat} {ls : Array Slot} {st rest As : List Value}
variable {y : MethodName} {bytes : ByteArray} {maxL mc ms mc1 ms1 n index : Nat} {rt : Option FieldType} {ws : List Cond} {rm : Room} {C : String}
theorem aU_at (X : teC Ts own cc nL ret D cy A0 p s m args meth c) (hBA : ∀ q, A1 q → A0 q) (hW : Wd H) (hX : aX sx b L xs s H) (hS : va_S A0 s.heap H locs) (av : List Value) : ∀ U : State, U.heap = H → s.WarmedH U.vm → va_Pc av (aU D cy A1 Wd sx b L xs) av.toArray U := by
  obtain ⟨-, -, -, -, -, -, -, hK, hF⟩ := X
  intro U hU hw
  exact ⟨rfl, va_K.moved hw.alike hK, by rw [hU]; exact teF_narrow (teF_moved hw (teF_S hF hS)) hBA, by rw [hU]; exact hW, fun h => by rw [hU]; exact ⟨va_X.moved hw.alike (hX h).1, (hX h).2⟩⟩
/-- a call of a method that catches -/
theorem kA (X : teC Ts own cc nL ret D cy A0 p s m args meth c) (hBA : ∀ q, A1 q → A0 q) (hW : Wd H) (hS : va_S A0 s.heap H locs) {r0 : Int32} {hh : List (Nat × Nat × Nat × Nat)} (hM : aI l y ws rm mc1 ms1 D cy A1 Wd As r0 Wd1) (cw : vx_CSW R s args own index y bytes maxL rt hh ws rm mc1 ms1 n)
    (hn : As.length = n) (hst : st = As.reverse ++ rest) (hls : ls.size = nL) (hWs : (rest.map fun v => v.category).sum ≤ 8) (hcs : cells + mc1 ≤ R.cells ∧ slots + ms1 ≤ R.slots) (hdg : decode cc pc = .ok (.invokestatic index, 3))
    (kk : ∀ (H1 : Heap) (locs1 : List Loc), Wd1 H1 → va_S A0 s.heap H1 locs1 → H.size ≤ H1.size → (∀ q : Nat, q < H.size → ¬ A1 q → H1[q]? = H[q]?) → W p l e R s m args below meth c H1 locs1 (cells + mc1) (slots + ms1) Q (F0 m (pc + 3) ls (.int r0 :: rest))) :
    W p l e R s m args below meth c H locs cells slots Q (F0 m pc ls st) := by
  have hpre := aU_at X hBA hW (aX_no (b := 0) (L := 0) (xs := fun _ => 0)) hS As
  obtain ⟨hx, hb, hml, -, hown, hts, -, hK, hF⟩ := X
  subst hst
  refine vx_calli (vx_runSX (As := As) (rest := rest) ⟨hx, hb, hml, hown, hts⟩ hM cw ⟨aU_blind, hpre⟩ rfl hn hls rfl (lv_room hWs) hdg hcs) hS (fun q _ h => hBA q h) (fun q h => hBA q h) (fun q _ h => hBA q h) (fun E ce q9 u t H1 locs1 ht hvm hF9 hB hz1 hk1 hS1 h3 h4 h5 => hF9.elim) (fun r u t H1 locs1 ht hvm hw hB hz1 hk1 hS1 => ?_)
  obtain rfl := hw
  exact kk H1 locs1 (by rw [← ht]; exact hB) hS1 hz1 hk1
/-- a call of another of the law's own methods -/
theorem kB (X : teC Ts own cc nL ret D cy A0 p s m args meth c) (hBA : ∀ q, A1 q → A0 q) (hW : Wd H) (hX : aX sx b L xs s H) (hS : va_S A0 s.heap H locs) {r0 : Int32} (hM : aJ l y ws rm mc1 ms1 D cy A1 Wd sx b L xs As r0 Wd1) (cw : CallB R s args own index y bytes maxL rt ws rm mc1 ms1 n ∧ (Cond.static y).before args s = true)
    (hn : As.length = n) (hst : st = As.reverse ++ rest) (hls : ls.size = nL) (hWs : (rest.map fun v => v.category).sum ≤ 8) (hcs : cells + mc1 ≤ R.cells ∧ slots + ms1 ≤ R.slots) (hdg : decode cc pc = .ok (.invokestatic index, 3))
    (kk : ∀ (H1 : Heap) (locs1 : List Loc), Wd1 H1 → va_S A0 s.heap H1 locs1 → H.size ≤ H1.size → (∀ q : Nat, q < H.size → ¬ A1 q → H1[q]? = H[q]?) → W p l e R s m args below meth c H1 locs1 (cells + mc1) (slots + ms1) Q (F0 m (pc + 3) ls (.int r0 :: rest))) :
    W p l e R s m args below meth c H locs cells slots Q (F0 m pc ls st) := by
  have hpre := aU_at X hBA hW hX hS As
  obtain ⟨hx, hb, hml, -, hown, hts, -, hK, hF⟩ := X
  subst hst
  refine va_calli (va_runS (As := As) (rest := rest) ⟨hx, hb, hml, hown, hts⟩ hM cw ⟨aU_blind, hpre⟩ rfl hn hls rfl (lv_room hWs) hdg hcs) hS (fun q _ h => hBA q h) (fun q h => hBA q h) (fun r2 u t H1 locs1 ht hvm hw hB hz1 hk1 hS1 => ?_)
  obtain rfl := hw
  exact kk H1 locs1 (by rw [← ht]; exact hB) hS1 hz1 hk1
/-- a call of a method of the class that throws nothing -/
theorem kD (X : teC Ts own cc nL ret D cy A0 p s m args meth c) (hBA : ∀ q, ba q → A0 q) {z z1 : aS} (hW : aR D cy ad ba z H) (hS : va_S A0 s.heap H locs) {r0 : Int32} (hM : ∀ S, AB S z → ∃ S1, AB S1 z1 ∧ cI l y ws rm D cy ad ba 0 S (.ref (ad 360) :: As) r0 S1) (cw : CallW R s args own RX5 index y bytes maxL rt ws rm 0 0 n)
    (hn : As.length = n) (hst : st = As.reverse ++ .ref (ad 360) :: rest) (hls : ls.size = nL) (hWs : (rest.map fun v => v.category).sum ≤ 8) (hcs : cells ≤ R.cells ∧ slots ≤ R.slots) (hdg : decode cc pc = .ok (.invokevirtual index, 3))
    (kk : ∀ (H1 : Heap) (locs1 : List Loc), aR D cy ad ba z1 H1 → va_S A0 s.heap H1 locs1 → H.size ≤ H1.size → (∀ q : Nat, q < H.size → ¬ ba q → H1[q]? = H[q]?) → W p l e R s m args below meth c H1 locs1 cells slots Q (F0 m (pc + 3) ls (.int r0 :: rest))) :
    W p l e R s m args below meth c H locs cells slots Q (F0 m pc ls st) := by
  obtain ⟨hbz, S, hA, hR⟩ := hW
  obtain ⟨S1, hA1, hM⟩ := hM S hA
  have hrv : ∃ cell : Cell, H[ad 360]? = some cell ∧ cell.vm.isStatics = false ∧ s.vm.findClass RX5 = some cell.cls := by
    obtain ⟨L, f, q0, hP, hq⟩ := te_cell hR (id := 360) (by decide)
    exact va_recv (q := (RX5, TX5, 7)) X.2.2.2.2.2.2.2.1 hP rfl hq
  have hpre : ∀ U : State, U.heap = H → s.WarmedH U.vm → va_Pc (.ref (ad 360) :: As) (teU D cy ad ba 0 S) (.ref (ad 360) :: As : List Value).toArray U := by
    obtain ⟨-, -, -, -, -, -, -, hK, hF⟩ := X
    intro U hU hw
    exact ⟨rfl, va_K.moved hw.alike hK, by rw [hU]; exact teF_narrow (teF_moved hw (teF_S hF hS)) hBA, by rw [hU]; exact hR⟩
  obtain ⟨hx, hb, hml, -, hown, hts, -, hK, hF⟩ := X
  subst hst
  refine va_calli (va_runV (As := As) (rest := rest) ⟨hx, hb, hml, hown, hts⟩ hM cw ⟨teU_blind, hrv, hpre⟩ rfl hn hls rfl (lv_room hWs) hdg hcs) hS (fun q _ h => hBA q h) (fun q h => hBA q h) (fun r2 u t H1 locs1 ht hvm hw hB hz1 hk1 hS1 => ?_)
  obtain ⟨rfl, rfl⟩ := hw
  exact kk H1 locs1 ⟨fun q hq => Nat.lt_of_lt_of_le (hbz q hq) hz1, _, hA1, by rw [← ht]; exact hB⟩ hS1 hz1 hk1
/-- the ends -/
theorem eK (X : teC Ts own cc nL (some .int) D cy A0 p s m args meth c) (hW : Wd1 H) (hS : va_S A0 s.heap H locs) {v r : Int32} (h1 : v = r) (hc : cells ≤ mc) (hs : slots ≤ ms) (hdg : decode cc pc = .ok (.ireturn, 1)) :
    W p l e R s m args below meth c H locs cells slots (MQ below (va_Qi (fun a (_ : Unit) => a = r) (fun _ t => Wd1 t.heap) A0) args s mc ms A0) (F0 m pc ls [.int v]) := by
  obtain ⟨hx, hb, hml, hr, hown, hts, hlocks, hK, hF⟩ := X
  exact W.widen hc hs (W.iret hx hb hr (fun t ht hW1 => ⟨⟨v, (), rfl, h1, by show Wd1 t.heap; rw [ht]; exact hW⟩, hS.F ht⟩) hS.2.2 hdg)
theorem eKz (X : teC Ts own cc nL (some .boolean) D cy A0 p s m args meth c) (hW : Wd1 H) (hS : va_S A0 s.heap H locs) {v r : Int32} (h0 : v &&& 1 = v) (h1 : v = r) (hc : cells ≤ mc) (hs : slots ≤ ms) (hdg : decode cc pc = .ok (.ireturn, 1)) :
    W p l e R s m args below meth c H locs cells slots (MQ below (va_Qi (fun a (_ : Unit) => a = r) (fun _ t => Wd1 t.heap) A0) args s mc ms A0) (F0 m pc ls [.int v]) := by
  obtain ⟨hx, hb, hml, hr, hown, hts, hlocks, hK, hF⟩ := X
  exact W.widen hc hs (W.zret hx hb hr (by show Value.int (v &&& 1) = _; rw [h0]) (fun t ht hW1 => ⟨⟨v, (), rfl, h1, by show Wd1 t.heap; rw [ht]; exact hW⟩, hS.F ht⟩) hS.2.2 hdg)
/-- the script -/
theorem aX_len (X : teC Ts own cc nL ret D cy A0 p s m args meth c) (hX : aX true b L xs s s.heap) (hbA : ¬ A0 b) (hS : va_S A0 s.heap H locs) (hdg : decode cc pc = .ok (.arraylength, 1))
    (kk : W p l e R s m args below meth c H locs cells slots Q (F0 m (pc + 1) ls (.int (Int32.ofNat L) :: rest))) : W p l e R s m args below meth c H locs cells slots Q (F0 m pc ls (.ref b :: rest)) :=
  va_slen X.1 X.2.1 (hX rfl).1 (hX rfl).2 hbA hS hdg kk
theorem aX_ld (X : teC Ts own cc nL ret D cy A0 p s m args meth c) (hX : aX true b L xs s s.heap) (hbA : ¬ A0 b) (hS : va_S A0 s.heap H locs) {i : Int32} (hin : tein i L = true) (hdg : decode cc pc = .ok (.iaload, 1))
    (kk : W p l e R s m args below meth c H locs cells slots Q (F0 m (pc + 1) ls (.int (xs i.toNatClampNeg) :: rest))) : W p l e R s m args below meth c H locs cells slots Q (F0 m pc ls (.int i :: .ref b :: rest)) :=
  va_sld X.1 X.2.1 (hX rfl).1 (hX rfl).2 hbA hS (tein_in hin) hdg kk
theorem aX_S {A : Nat → Prop} (hX : aX sx b L xs s s.heap) (hbA : ¬ A b) (hS : va_S A s.heap H locs) : aX sx b L xs s H := fun h => ⟨va_X.kept (hX h).1 (hS.2.1 b (hX h).2 hbA), Nat.lt_of_lt_of_le (hX h).2 hS.1⟩
/-- the law's own row of ints -/
theorem aw_new (X : teC Ts own cc nL ret D cy A0 p s m args meth c) (harr : Cond.arrayClass .int ∈ Ts) (hS : va_S A0 s.heap H locs) {k : Int32} {N : Nat} (hn : ¬ k < 0) (hN : k.toNatClampNeg = N) (hbytes : N * 4 ≤ 536870912) (hcells : cells + 1 ≤ R.cells) (hslots : slots + N ≤ R.slots) (hdg : decode cc pc = .ok (.newarray .int, 2))
    (kk : ∀ (w : Nat) (H1 : Heap), s.heap.size ≤ w → w = H.size → (∀ q, q < H.size → H1[q]? = H[q]?) → aW cy w N (fun _ => 0) H1 → va_S A0 s.heap H1 locs → W p l e R s m args below meth c H1 locs (cells + 1) (slots + N) Q (F0 m (pc + 2) ls (.ref w :: rest))) : W p l e R s m args below meth c H locs cells slots Q (F0 m pc ls (.int k :: rest)) := by
  obtain ⟨hx, hb, hml, -, hown, hts, -, hK, hF⟩ := X
  refine va_newaK (atype := .int) hx hb (hts _ harr) rfl hdg rfl hn hN hbytes hcells hslots rfl fun H1 cA e1 z1 o1 hAr hNm => ?_
  have e2 : cA = cy 0 := Option.some.inj (Eq.trans (Eq.symm hNm) ((hK.2 0 _ rfl).2))
  subst e2
  exact kk H.size H1 hS.1 rfl o1 e1 ⟨Nat.le_trans hS.1 (by omega), fun q h1 h2 => (o1 q (Nat.lt_of_lt_of_le h1 hS.1)).trans (hS.2.1 q h1 h2), hS.2.2⟩
theorem aw_ld (X : teC Ts own cc nL ret D cy A0 p s m args meth c) {w N : Nat} {f : Nat → Int32} (hw : aW cy w N f H) {i : Int32} (hin : tein i N = true) (hdg : decode cc pc = .ok (.iaload, 1))
    (kk : W p l e R s m args below meth c H locs cells slots Q (F0 m (pc + 1) ls (.int (f i.toNatClampNeg) :: rest))) : W p l e R s m args below meth c H locs cells slots Q (F0 m pc ls (.int i :: .ref w :: rest)) := by
  obtain ⟨hx, hb, hml, -, hown, hts, -, hK, hF⟩ := X
  exact va_iald (D := D) (cl := vwCl) (ws := [(w, .inl (cy 0, N, .inl f))]) hx hb hK (fun k q hq => by
    have h1 := (List.getElem?_eq_some_iff.mp hq).1
    rw [List.length_singleton] at h1
    obtain rfl : k = 0 := by omega
    cases hq
    exact hw) 0 0 rfl rfl (tein_in hin) hdg kk
theorem aw_st (X : teC Ts own cc nL ret D cy A0 p s m args meth c) (hS : va_S A0 s.heap H locs) {w N : Nat} {f : Nat → Int32} (hw : aW cy w N f H) (hwo : s.heap.size ≤ w) {i v : Int32} (hin : tein i N = true) (hdg : decode cc pc = .ok (.iastore, 1))
    (kk : ∀ (H1 : Heap), aW cy w N (upd f i.toNatClampNeg v) H1 → (∀ q, q ≠ w → H1[q]? = H[q]?) → va_S A0 s.heap H1 locs → W p l e R s m args below meth c H1 locs cells slots Q (F0 m (pc + 1) ls rest)) : W p l e R s m args below meth c H locs cells slots Q (F0 m pc ls (.int v :: .int i :: .ref w :: rest)) := by
  obtain ⟨hx, hb, hml, -, hown, hts, -, hK, hF⟩ := X
  refine W.iast hx hb hw ((hK.2 0 _ rfl).1 N (fun j => .int (f j))) (fun q => by cases q) (by show ¬ (i < 0 ∨ (arrV _ _ _).slots.size ≤ _); rw [arrV_size]; exact tein_in hin) rfl rfl hdg fun H1 e1 z1 oq => ?_
  refine W.forget (fun q hq => by rw [List.mem_singleton.mp hq]; exact hwo) ?_
  refine kk H1 ?_ oq ⟨by rw [z1]; exact hS.1, fun q h1 h2 => (oq q (Nat.ne_of_lt (Nat.lt_of_lt_of_le h1 hwo))).trans (hS.2.1 q h1 h2), hS.2.2⟩
  have h2 : H1[w]? = some (vp_cell (cy 0) (N, .inl (upd f i.toNatClampNeg v))) := by
    rw [e1, vp_cell_i, arrV_store]
    congr 2
    funext j
    show (if j = _ then _ else _) = Value.int (if j = _ then _ else _)
    split <;> rfl
  rw [vp_cell_i] at h2
  exact h2
end ALAW
section AOF
variable {l : Launch} {y : MethodName} {ws ws' : List Cond} {rm : Room} {D : va_G} {cy : Nat → ClassId} {A : Nat → Prop} {Wd : Heap → Prop} {sx : Bool} {b L : Nat} {xs : Nat → Int32} {av : List Value} {cc : ByteArray} {maxL : Nat} {ret : Option FieldType}
theorem a_of {Qc : Array Value → State → Outcome → State → Prop} {mc ms : Nat} (hy : plainName y.cls = true) (hw : ws = Cond.code y cc maxL ret :: ws') (hv : (lg_sl av).length ≤ maxL)
    (body : ∀ (p : Program) (e : Env) (s : State) (m : MethodId) (below : List Frame) (meth : Method) (c : Code) (ls : Array Slot), teC ws y.cls cc maxL ret D cy A p s m av.toArray meth c → Wd s.heap → aX sx b L xs s s.heap → va_S A s.heap s.heap [] → lv_has ls maxL (lv_args 0 av) →
      W p l e (headSpec ws rm).room s m av.toArray below meth c s.heap [] 0 0 (MQ below Qc av.toArray s mc ms A) (F0 m 0 ls [])) : Met l y ws rm (va_Pc av (aU D cy A Wd sx b L xs)) Qc mc ms A := by
  refine Met.ofW (cc := cc) (maxL := maxL) (ret := ret) hy hw ?_
  intro p e s m args below meth c s₁ B hml hv2
  obtain ⟨rfl, hK, hF, hW, hX⟩ := hv2
  have X : teC ws y.cls cc maxL ret D cy A p s m av.toArray meth c := ⟨B.exec, B.bytes, hml, B.returns, findClass_of_methodNamed B.named, atoms_spec (ws := ws) B.pre, B.notSynchronized, hK, hF⟩
  have hl := lv_entry av (n := maxL) hv
  rw [lg_entry_eq]
  exact body p e s m below meth c _ X hW hX va_S.rf hl
end AOF
