section TEOFF
variable {l : Launch} {y : MethodName} {ws ws' : List Cond} {rm : Room} {D : va_G} {cy : Nat → ClassId} {ad : Nat → Nat} {ba : Nat → Prop} {O : Int64} {S S1 : teS} {av : List Value} {cc : ByteArray} {maxL : Nat} {ret : Option FieldType}
/-- the same for a method of the JDK that no row of the natives runs in its place (follows the kit's Met.ofW) -/
theorem te_ofF {Qc : Array Value → State → Outcome → State → Prop} {mc ms : Nat} {free : Addr → Prop} (hy : plainFor y = true) (hw : ws = Cond.code y cc maxL ret :: ws') (hv : (lg_sl av).length ≤ maxL)
    (body : ∀ (p : Program) (e : Env) (s : State) (m : MethodId) (below : List Frame) (meth : Method) (c : Code) (ls : Array Slot), teC ws y.cls cc maxL ret D cy ba p s m av.toArray meth c → teR D cy ad ba O S s.heap → va_S (teA ba) s.heap s.heap [] → lv_has ls maxL (lv_args 0 av) →
      W p l e (headSpec ws rm).room s m av.toArray below meth c s.heap [] 0 0 (MQ below Qc av.toArray s mc ms free) (F0 m 0 ls [])) : Met l y ws rm (va_Pc av (teU D cy ad ba O S)) Qc mc ms free := by
  refine MetFree.of_bodySF (code := cc) (maxLocals := maxL) (ret := ret) hy ?_ ?_
  · intro args s m h hn
    obtain ⟨meth, c, h1, h2, h3, h4, h5, h6, -, -⟩ := Cond.code_spec hn (atoms_spec (ws := ws) h _ (by rw [hw]; exact List.mem_cons_self))
    exact ⟨meth, c, h1, h2, h3, h4, h5, h6⟩
  · intro p e s m args below meth c s₁ B hml hv2 _
    have hh0 : s₁.heap = s.heap := by rw [B.state]; rfl
    obtain ⟨rfl, hK, hF, hR⟩ := hv2
    have X : teC ws y.cls cc maxL ret D cy ba p s m av.toArray meth c := ⟨B.exec, B.bytes, hml, B.returns, findClass_of_methodNamed B.named, atoms_spec (ws := ws) B.pre, B.notSynchronized, hK, hF⟩
    have hl := lv_entry av (n := maxL) hv
    have K := body p e s m below meth c _ X hR va_S.rf hl
    rw [← lg_entry_eq] at K
    obtain ⟨t, a1, o, b1, b2, b3⟩ := K s₁ hh0 (Stand.of_body B)
    exact ⟨t, o, a1, b1, b2, ⟨b3.1, b3.2⟩⟩
end TEOFF
theorem te_sw {x : Int32} {lo hi : Int} (h : ∀ k : Int, lo ≤ k → k ≤ hi → ¬ x.toInt = k) : x.toInt < lo ∨ hi < x.toInt := by
  by_cases h1 : x.toInt < lo
  · exact Or.inl h1
  · by_cases h2 : hi < x.toInt
    · exact Or.inr h2
    · exact absurd rfl (h x.toInt (by omega) (by omega))
theorem te_idm {k a : Nat} (hk : k < 18) (ha : a < 9) : 20 * k + 2 + a < 369 := by omega
theorem te_idc {k : Nat} (hk : k < 18) : 20 * k < 369 := by omega
