/-! The calls, with the cost ahead (large numbers behind a sum are slow) -/
section ALAW
variable {p : Program} {l : Launch} {e : Env} {R : Room} {s : State} {m : MethodId} {args : Array Value} {below : List Frame} {meth : Method} {c : Code} {H : Heap} {locs : List Loc} {cells slots : Nat} {Q : State → Prop}
variable {Ts : List Cond} {own : String} {cc : ByteArray} {nL : Nat} {ret : Option FieldType} {D : va_G} {cy : Nat → ClassId} {ad : Nat → Nat} {ba A0 A1 : Nat → Prop} {Wd Wd1 : Heap → Prop} {sx : Bool} {b L : Nat} {xs : Nat → Int32} {pc : Nat} {ls : Array Slot} {st rest As : List Value}
variable {y : MethodName} {bytes : ByteArray} {maxL mc ms mc1 ms1 n index : Nat} {rt : Option FieldType} {ws : List Cond} {rm : Room} {C : String}
theorem kAf (X : teC Ts own cc nL ret D cy A0 p s m args meth c) (hBA : ∀ q, A1 q → A0 q) (hW : Wd H) (hS : va_S A0 s.heap H locs) {r0 : Int32} {hh : List (Nat × Nat × Nat × Nat)} (hM : aI l y ws rm mc1 ms1 D cy A1 Wd As r0 Wd1) (cw : vx_CSW R s args own index y bytes maxL rt hh ws rm mc1 ms1 n)
    (hn : As.length = n) (hst : st = As.reverse ++ rest) (hls : ls.size = nL) (hWs : (rest.map fun v => v.category).sum ≤ 8) (hcs : mc1 + cells ≤ R.cells ∧ ms1 + slots ≤ R.slots) (hdg : decode cc pc = .ok (.invokestatic index, 3))
    (kk : ∀ (H1 : Heap) (locs1 : List Loc), Wd1 H1 → va_S A0 s.heap H1 locs1 → H.size ≤ H1.size → (∀ q : Nat, q < H.size → ¬ A1 q → H1[q]? = H[q]?) → W p l e R s m args below meth c H1 locs1 (mc1 + cells) (ms1 + slots) Q (F0 m (pc + 3) ls (.int r0 :: rest))) :
    W p l e R s m args below meth c H locs cells slots Q (F0 m pc ls st) :=
  kA X hBA hW hS hM cw hn hst hls hWs (by rw [Nat.add_comm cells, Nat.add_comm slots]; exact hcs) hdg (fun H1 locs1 g1 g2 g3 g4 => by rw [Nat.add_comm cells, Nat.add_comm slots]; exact kk H1 locs1 g1 g2 g3 g4)
theorem kBf (X : teC Ts own cc nL ret D cy A0 p s m args meth c) (hBA : ∀ q, A1 q → A0 q) (hW : Wd H) (hX : aX sx b L xs s H) (hS : va_S A0 s.heap H locs) {r0 : Int32} (hM : aJ l y ws rm mc1 ms1 D cy A1 Wd sx b L xs As r0 Wd1) (cw : CallB R s args own index y bytes maxL rt ws rm mc1 ms1 n ∧ (Cond.static y).before args s = true)
    (hn : As.length = n) (hst : st = As.reverse ++ rest) (hls : ls.size = nL) (hWs : (rest.map fun v => v.category).sum ≤ 8) (hcs : mc1 + cells ≤ R.cells ∧ ms1 + slots ≤ R.slots) (hdg : decode cc pc = .ok (.invokestatic index, 3))
    (kk : ∀ (H1 : Heap) (locs1 : List Loc), Wd1 H1 → va_S A0 s.heap H1 locs1 → H.size ≤ H1.size → (∀ q : Nat, q < H.size → ¬ A1 q → H1[q]? = H[q]?) → W p l e R s m args below meth c H1 locs1 (mc1 + cells) (ms1 + slots) Q (F0 m (pc + 3) ls (.int r0 :: rest))) :
    W p l e R s m args below meth c H locs cells slots Q (F0 m pc ls st) :=
  kB X hBA hW hX hS hM cw hn hst hls hWs (by rw [Nat.add_comm cells, Nat.add_comm slots]; exact hcs) hdg (fun H1 locs1 g1 g2 g3 g4 => by rw [Nat.add_comm cells, Nat.add_comm slots]; exact kk H1 locs1 g1 g2 g3 g4)
end ALAW
