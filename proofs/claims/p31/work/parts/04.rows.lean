section TEROW
variable {p : Program} {l : Launch} {e : Env} {R : Room} {s : State} {m : MethodId} {args : Array Value} {below : List Frame} {meth : Method} {c : Code} {H : Heap} {locs : List Loc} {cells slots : Nat} {Q : State → Prop}
variable {Ts : List Cond} {own : String} {cc : ByteArray} {nL : Nat} {ret : Option FieldType} {D : va_G} {cy : Nat → ClassId} {ad : Nat → Nat} {ba : Nat → Prop} {O : Int64} {S S1 : teS} {pc : Nat} {ls : Array Slot} {rest : List Value} {id : Nat}
/-- the cell of a thing in the world -/
theorem te_cell (hR : teR D cy ad ba O S H) (hid : id < 369) : ∃ (L : List Nat) (f : Nat → va_E) (q0 : Nat), va_P D vwCl ([] ++ va_pl L f) H ∧ ([] ++ va_pl L f)[q0]? = some (ad id, teE cy ad O S id) := by
  obtain ⟨L, f, hP, -, hc, -⟩ := hR
  obtain ⟨k, hk⟩ := va_pl_get (X := []) (f := f) (hc id hid).1
  exact ⟨L, f, k, hP, by rw [hk, (hc id hid).2]⟩
/-- a cell is written: the world with the new numbers -/
theorem te_upd {H1 : Heap} {L : List Nat} {f : Nat → va_E} {q0 : Nat} {E : va_E} (hD : va_D (teA ba) ([] ++ va_pl L f)) (hc : ∀ i, i < 369 → ad i ∈ L ∧ f (ad i) = teE cy ad O S i) (hi : ∀ i j, i < 369 → j < 369 → ad i = ad j → i = j) (hid : id < 369)
    (hq : ([] ++ va_pl L f)[q0]? = some (ad id, teE cy ad O S id)) (hz : 0 ≤ H1.size) {O1 : Int64} (he : teE cy ad O1 S1 id = E) (ho : ∀ i, i < 369 → i ≠ id → teE cy ad O1 S1 i = teE cy ad O S i)
    (hP1 : va_P D vwCl (([] ++ va_pl L f).set q0 (ad id, E)) H1) (hD1 : va_D (teA ba) (([] ++ va_pl L f).set q0 (ad id, E))) : teR D cy ad ba O1 S1 H1 := by
  have hk : ([] ++ va_pl L f)[q0]? = some (ad id, f (ad id)) := by rw [hq, (hc id hid).2]
  rw [va_pl_set hD (hc id hid).1 hk] at hP1 hD1
  refine ⟨L, va_up f (ad id) E, hP1, hD1, fun i h => ⟨(hc i h).1, ?_⟩, hi, hz⟩
  by_cases h1 : i = id
  · subst h1
    rw [he]
    simp [va_up]
  · have h2 : ad i ≠ ad id := fun z => h1 (hi i id h hid z)
    unfold va_up
    rw [if_neg h2, ho i h h1]
    exact (hc i h).2
theorem te_get (X : teC Ts own cc nL ret D cy ba p s m args meth c) (hR : teR D cy ad ba O S H) (hid : id < 369) {ref C : String} {T : u_T} {N ci index : Nat} {fs : List Value} (hE : teE cy ad O S id = .inr (ci, fs)) (hin : ∀ w ∈ u_ws C T N, w ∈ Ts) (hc : vwCl[ci]? = some (C, T, N)) (k : Nat) (hk : k < N) (hlink : Cond.fieldLink own index ref (T k).2.1 (T k).2.2.1 ∈ Ts) (hsame : (T k).1 = ref) {v : Value} (hv : fs[k]? = some v) (hdg : decode cc pc = .ok (.getfield index, 3))
    (kk : W p l e R s m args below meth c H locs cells slots Q (F0 m (pc + 3) ls (v :: rest))) : W p l e R s m args below meth c H locs cells slots Q (F0 m pc ls (.ref (ad id) :: rest)) := by
  obtain ⟨hx, hb, -, -, hown, hts, -, hK, -⟩ := X
  obtain ⟨L, f, q0, hP, hq⟩ := te_cell hR hid
  rw [hE] at hq
  exact va_get (D := D) hx hb hts hin hown hK hP q0 hq hc k hk (hts _ hlink) (by rw [hsame]; exact fun _ h => h) hv hdg kk
theorem te_put (X : teC Ts own cc nL ret D cy ba p s m args meth c) (hR : teR D cy ad ba O S H) (hS : va_S (teA ba) s.heap H locs) (hid : id < 369) {ref C : String} {T : u_T} {N ci index : Nat} {fs : List Value} (hE : teE cy ad O S id = .inr (ci, fs)) (hin : ∀ w ∈ u_ws C T N, w ∈ Ts) (hc : vwCl[ci]? = some (C, T, N)) (k : Nat) (hk : k < N) (hlink : Cond.fieldLink own index ref (T k).2.1 (T k).2.2.1 ∈ Ts) (hsame : (T k).1 = ref) {v : Int32}
    (ty0 : Nat → FieldType) (hty : ∀ k, k < N → parseFieldDescriptor (T k).2.2.1 = some (ty0 k)) (hnm : ∀ a, a < N → ∀ b, b < N → a ≠ b → (T a).2.1 ≠ (T b).2.1) (hfin : (T k).2.2.2 = false) (hd : parseFieldDescriptor (T k).2.2.1 = some .int) (hl : k < fs.length)
    (he : teE cy ad O S1 id = .inr (ci, fs.set k (.int v))) (ho : ∀ i, i < 369 → i ≠ id → teE cy ad O S1 i = teE cy ad O S i)
    (hdg : decode cc pc = .ok (.putfield index, 3)) (kk : ∀ (H1 : Heap) (locs1 : List Loc), teR D cy ad ba O S1 H1 → va_S (teA ba) s.heap H1 locs1 → W p l e R s m args below meth c H1 locs1 cells slots Q (F0 m (pc + 3) ls rest)) : W p l e R s m args below meth c H locs cells slots Q (F0 m pc ls (.int v :: .ref (ad id) :: rest)) := by
  obtain ⟨hx, hb, -, -, hown, hts, -, hK, hF⟩ := X
  obtain ⟨L, f, hP, hD, hcs, hi, hz⟩ := hR
  obtain ⟨q0, hq⟩ := va_pl_get (X := []) (f := f) (hcs id hid).1
  rw [(hcs id hid).2] at hq
  have hq2 := hq
  rw [hE] at hq2
  refine va_put (D := D) hx hb hts hin ty0 hty hnm hown hK hP hD hS q0 hq2 hc k hk (hts _ hlink) (by rw [hsame]; exact fun _ h => h) hfin hd rfl rfl hl hdg (fun H1 locs1 hP1 hD1 hS1 => ?_)
  exact kk H1 locs1 (te_upd hD hcs hi hid hq (Nat.le_trans hF.2.2.2.2 hS1.1) he ho hP1 hD1) hS1
/-- reading and writing rows of ints -/
theorem te_iald (X : teC Ts own cc nL ret D cy ba p s m args meth c) (hR : teR D cy ad ba O S H) (hid : id < 369) {n : Nat} {f : Nat → Int32} (hE : teE cy ad O S id = .inl (cy 0, n, .inl f)) {i : Int32} (hin : tein i n = true) (hdg : decode cc pc = .ok (.iaload, 1))
    (kk : W p l e R s m args below meth c H locs cells slots Q (F0 m (pc + 1) ls (.int (f i.toNatClampNeg) :: rest))) : W p l e R s m args below meth c H locs cells slots Q (F0 m pc ls (.int i :: .ref (ad id) :: rest)) := by
  obtain ⟨hx, hb, -, -, hown, hts, -, hK, -⟩ := X
  obtain ⟨L, g, q0, hP, hq⟩ := te_cell hR hid
  rw [hE] at hq
  exact va_iald hx hb hK hP q0 0 hq rfl (tein_in hin) hdg kk
theorem te_cald (X : teC Ts own cc nL ret D cy ba p s m args meth c) (hR : teR D cy ad ba O S H) (hid : id < 369) {n : Nat} {f : Nat → Int32} (hE : teE cy ad O S id = .inl (cy 1, n, .inl f)) {i : Int32} (hin : tein i n = true) (hdg : decode cc pc = .ok (.caload, 1))
    (kk : W p l e R s m args below meth c H locs cells slots Q (F0 m (pc + 1) ls (.int (f i.toNatClampNeg) :: rest))) : W p l e R s m args below meth c H locs cells slots Q (F0 m pc ls (.int i :: .ref (ad id) :: rest)) := by
  obtain ⟨hx, hb, -, -, hown, hts, -, hK, -⟩ := X
  obtain ⟨L, g, q0, hP, hq⟩ := te_cell hR hid
  rw [hE] at hq
  exact va_cald hx hb hK hP q0 1 hq rfl (tein_in hin) hdg kk
theorem te_zald (X : teC Ts own cc nL ret D cy ba p s m args meth c) (hR : teR D cy ad ba O S H) (hid : id < 369) {n : Nat} {f : Nat → Int32} (hE : teE cy ad O S id = .inl (cy 2, n, .inl f)) {i : Int32} (hin : tein i n = true) (hdg : decode cc pc = .ok (.baload, 1))
    (kk : W p l e R s m args below meth c H locs cells slots Q (F0 m (pc + 1) ls (.int (f i.toNatClampNeg) :: rest))) : W p l e R s m args below meth c H locs cells slots Q (F0 m pc ls (.int i :: .ref (ad id) :: rest)) := by
  obtain ⟨hx, hb, -, -, hown, hts, -, hK, -⟩ := X
  obtain ⟨L, g, q0, hP, hq⟩ := te_cell hR hid
  rw [hE] at hq
  exact va_zald hx hb hK hP q0 2 hq rfl (tein_in hin) hdg kk
theorem te_aald (X : teC Ts own cc nL ret D cy ba p s m args meth c) (hR : teR D cy ad ba O S H) (hid : id < 369) {n t0 : Nat} {C : String} {f : Nat → Option Nat} (ht : (teT cy)[t0]? = some (cy t0, .object C)) (hE : teE cy ad O S id = .inl (cy t0, n, .inr (.inr (.inr (.inr f))))) {i : Int32} (hin : tein i n = true) (hdg : decode cc pc = .ok (.aaload, 1))
    (kk : W p l e R s m args below meth c H locs cells slots Q (F0 m (pc + 1) ls (va_rf (f i.toNatClampNeg) :: rest))) : W p l e R s m args below meth c H locs cells slots Q (F0 m pc ls (.int i :: .ref (ad id) :: rest)) := by
  obtain ⟨hx, hb, -, -, hown, hts, -, hK, -⟩ := X
  obtain ⟨L, g, q0, hP, hq⟩ := te_cell hR hid
  rw [hE] at hq
  exact va_aldq hx hb hK hP q0 t0 hq ht (tein_in hin) hdg kk
theorem te_iast (X : teC Ts own cc nL ret D cy ba p s m args meth c) (hR : teR D cy ad ba O S H) (hS : va_S (teA ba) s.heap H locs) (hid : id < 369) {n : Nat} {f : Nat → Int32} (hE : teE cy ad O S id = .inl (cy 0, n, .inl f)) {i v : Int32} (hin : tein i n = true)
    (he : teE cy ad O S1 id = .inl (cy 0, n, .inl (upd f i.toNatClampNeg v))) (ho : ∀ i, i < 369 → i ≠ id → teE cy ad O S1 i = teE cy ad O S i) (hdg : decode cc pc = .ok (.iastore, 1))
    (kk : ∀ (H1 : Heap) (locs1 : List Loc), teR D cy ad ba O S1 H1 → va_S (teA ba) s.heap H1 locs1 → W p l e R s m args below meth c H1 locs1 cells slots Q (F0 m (pc + 1) ls rest)) : W p l e R s m args below meth c H locs cells slots Q (F0 m pc ls (.int v :: .int i :: .ref (ad id) :: rest)) := by
  obtain ⟨hx, hb, -, -, hown, hts, -, hK, hF⟩ := X
  obtain ⟨L, g, hP, hD, hcs, hi, hz⟩ := hR
  obtain ⟨q0, hq⟩ := va_pl_get (X := []) (f := g) (hcs id hid).1
  rw [(hcs id hid).2] at hq
  have hq2 := hq
  rw [hE] at hq2
  refine va_iast hx hb hK hP hD hS q0 0 hq2 rfl (tein_in hin) hdg (fun H1 locs1 hP1 hD1 hS1 => ?_)
  exact kk H1 locs1 (te_upd hD hcs hi hid hq (Nat.le_trans hF.2.2.2.2 hS1.1) he ho hP1 hD1) hS1
theorem te_cast (X : teC Ts own cc nL ret D cy ba p s m args meth c) (hR : teR D cy ad ba O S H) (hS : va_S (teA ba) s.heap H locs) (hid : id < 369) {n : Nat} {f : Nat → Int32} (hE : teE cy ad O S id = .inl (cy 1, n, .inl f)) {i v : Int32} (hin : tein i n = true)
    (he : teE cy ad O S1 id = .inl (cy 1, n, .inl (upd f i.toNatClampNeg (vp_nar .char v)))) (ho : ∀ i, i < 369 → i ≠ id → teE cy ad O S1 i = teE cy ad O S i) (hdg : decode cc pc = .ok (.castore, 1))
    (kk : ∀ (H1 : Heap) (locs1 : List Loc), teR D cy ad ba O S1 H1 → va_S (teA ba) s.heap H1 locs1 → W p l e R s m args below meth c H1 locs1 cells slots Q (F0 m (pc + 1) ls rest)) : W p l e R s m args below meth c H locs cells slots Q (F0 m pc ls (.int v :: .int i :: .ref (ad id) :: rest)) := by
  obtain ⟨hx, hb, -, -, hown, hts, -, hK, hF⟩ := X
  obtain ⟨L, g, hP, hD, hcs, hi, hz⟩ := hR
  obtain ⟨q0, hq⟩ := va_pl_get (X := []) (f := g) (hcs id hid).1
  rw [(hcs id hid).2] at hq
  have hq2 := hq
  rw [hE] at hq2
  refine va_cast hx hb hK hP hD hS q0 1 hq2 rfl (tein_in hin) hdg (fun H1 locs1 hP1 hD1 hS1 => ?_)
  exact kk H1 locs1 (te_upd hD hcs hi hid hq (Nat.le_trans hF.2.2.2.2 hS1.1) he ho hP1 hD1) hS1
theorem te_zast (X : teC Ts own cc nL ret D cy ba p s m args meth c) (hR : teR D cy ad ba O S H) (hS : va_S (teA ba) s.heap H locs) (hid : id < 369) {n : Nat} {f : Nat → Int32} (hE : teE cy ad O S id = .inl (cy 2, n, .inl f)) {i v : Int32} (hin : tein i n = true)
    (he : teE cy ad O S1 id = .inl (cy 2, n, .inl (upd f i.toNatClampNeg (vp_nar .boolean v)))) (ho : ∀ i, i < 369 → i ≠ id → teE cy ad O S1 i = teE cy ad O S i) (hdg : decode cc pc = .ok (.bastore, 1))
    (kk : ∀ (H1 : Heap) (locs1 : List Loc), teR D cy ad ba O S1 H1 → va_S (teA ba) s.heap H1 locs1 → W p l e R s m args below meth c H1 locs1 cells slots Q (F0 m (pc + 1) ls rest)) : W p l e R s m args below meth c H locs cells slots Q (F0 m pc ls (.int v :: .int i :: .ref (ad id) :: rest)) := by
  obtain ⟨hx, hb, -, -, hown, hts, -, hK, hF⟩ := X
  obtain ⟨L, g, hP, hD, hcs, hi, hz⟩ := hR
  obtain ⟨q0, hq⟩ := va_pl_get (X := []) (f := g) (hcs id hid).1
  rw [(hcs id hid).2] at hq
  have hq2 := hq
  rw [hE] at hq2
  refine va_zast hx hb hK hP hD hS q0 2 hq2 rfl (tein_in hin) hdg (fun H1 locs1 hP1 hD1 hS1 => ?_)
  exact kk H1 locs1 (te_upd hD hcs hi hid hq (Nat.le_trans hF.2.2.2.2 hS1.1) he ho hP1 hD1) hS1
/-- one number changed: the other cells are the same -/
theorem teu_o {k j : Nat} {v : Int32} (h : ∀ i, i < 369 → i ≠ id → ¬ teW i k j) : ∀ i, i < 369 → i ≠ id → teE cy ad O (teu S k j v) i = teE cy ad O S i := by
  intro i h1 h2
  refine teE_same cy ad O (fun k1 j1 hw => teu_n S v (fun hk hj => h i h1 h2 ?_))
  subst hk; subst hj
  exact hw
end TEROW
