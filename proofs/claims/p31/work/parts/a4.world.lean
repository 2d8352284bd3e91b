/-! ALL CELLS, in the order in which they are made, are the world with all numbers 0 -/
theorem te_make {D : va_G} {cy : Nat → ClassId} {ad : Nat → Nat} {ba : Nat → Prop} {O : Int64} {S : teS} {H : Heap} {ids : List Nat} (hin : ∀ i, i < 369 → i ∈ ids) (hP : va_P D vwCl (ids.map fun i => (ad i, teE cy ad O S i)) H) (hD : va_D (teA ba) (ids.map fun i => (ad i, teE cy ad O S i)))  : teR D cy ad ba O S H := by
  have inj : ∀ i j, i ∈ ids → j ∈ ids → ad i = ad j → i = j := fun i j hi hj e => by
    obtain ⟨a, ha⟩ := List.getElem?_of_mem hi
    obtain ⟨b, hb⟩ := List.getElem?_of_mem hj
    have h1 : (ids.map fun i => (ad i, teE cy ad O S i))[a]? = some (ad i, teE cy ad O S i) := by rw [List.getElem?_map, ha]; rfl
    have h2 : (ids.map fun i => (ad i, teE cy ad O S i))[b]? = some (ad j, teE cy ad O S j) := by rw [List.getElem?_map, hb]; rfl
    have h3 := hD.1 a b _ _ h1 h2 e
    rw [h3, hb] at ha
    exact (Option.some.inj ha).symm
  have h : ∀ a : Nat, ∃ e : va_E, ∀ i, i ∈ ids → ad i = a → e = teE cy ad O S i := fun a => by
    by_cases h : ∃ i, i ∈ ids ∧ ad i = a
    · obtain ⟨i, hi, hia⟩ := h
      exact ⟨teE cy ad O S i, fun j hj hja => by rw [inj i j hi hj (hia.trans hja.symm)]⟩
    · exact ⟨teE cy ad O S 0, fun j hj hja => absurd ⟨j, hj, hja⟩ h⟩
  obtain ⟨f, hf⟩ := Classical.axiomOfChoice h
  have e1 : va_pl (ids.map ad) f = ids.map fun i => (ad i, teE cy ad O S i) := by
    unfold va_pl
    rw [List.map_map]
    refine List.map_congr_left fun i hi => ?_
    show (ad i, f (ad i)) = _
    rw [hf (ad i) i hi rfl]
  refine ⟨ids.map ad, f, by rw [List.nil_append, e1]; exact hP, by rw [List.nil_append, e1]; exact hD, fun i hi => ⟨List.mem_map.mpr ⟨i, hin i hi, rfl⟩, hf (ad i) i (hin i hi) rfl⟩, fun i j hi hj => inj i j (hin i hi) (hin j hj), Nat.zero_le _⟩
def mIds (k : Nat) : Nat → List Nat
  | 0 => []
  | i + 1 => mIds k i ++ [20 * k + 2 + i, 20 * k + 11 + i]
def cIds (k : Nat) : List Nat := (20 * k) :: (20 * k + 1) :: mIds k 9
def kIds : Nat → List Nat
  | 0 => []
  | i + 1 => kIds i ++ cIds (2 + i)
def xIds : List Nat := 360 :: ((((([361, 362] ++ cIds 0) ++ cIds 1) ++ (363 :: 364 :: kIds 14)) ++ (365 :: (cIds 16 ++ cIds 17))) ++ (366 :: [367, 368]))
theorem q_in : ∀ i : Fin 369, i.val ∈ xIds := by decide +kernel
theorem q_lt : ∀ i, i ∈ xIds → i < 369 := by decide +kernel
theorem q_nd : xIds.Nodup := by decide +kernel
section S74
variable {cy : Nat → ClassId} {ad : Nat → Nat}
def gW (cy : Nat → ClassId) (ad : Nat → Nat) (i : Nat) : Nat × va_E := (ad i, teE cy ad 0 S00 i)
theorem mW_ids {k : Nat} (hk : k < 18) {am : Nat → Nat} (h : ∀ x, x < 20 → ad (20 * k + x) = am x) : ∀ i, i ≤ 9 → mW cy am i = (mIds k i).map (gW cy ad)
  | 0, _ => rfl
  | i + 1, hi => by
    have e2 : ad (20 * k + 2 + i) = am (2 + i) := by rw [Nat.add_assoc]; exact h _ (by omega)
    have e11 : ad (20 * k + 11 + i) = am (11 + i) := by rw [Nat.add_assoc]; exact h _ (by omega)
    have g1 : gW cy ad (20 * k + 2 + i) = (am (2 + i), mE am i) := by
      unfold gW mE
      rw [teE_memb cy ad 0 S00 hk (show i < 9 by omega), e2, e11]
      rfl
    have g2 : gW cy ad (20 * k + 11 + i) = (am (11 + i), .inl (cy 0, 4, .inl fun _ => 0)) := by
      unfold gW
      rw [teE_levs cy ad 0 S00 hk (show i < 9 by omega), e11]
      refine congrArg (fun f => (am (11 + i), (Sum.inl (cy 0, 4, .inl f) : va_E))) ?_
      funext j
      split <;> rfl
    show mW cy am i ++ [(am (2 + i), mE am i), (am (11 + i), .inl (cy 0, 4, .inl fun _ => 0))] = (mIds k i ++ [20 * k + 2 + i, 20 * k + 11 + i]).map (gW cy ad)
    rw [List.map_append, ← mW_ids hk h i (by omega), List.map_cons, List.map_cons, List.map_nil, g1, g2]
theorem tcV_ids {k : Nat} (hk : k < 18) {am : Nat → Nat} (h : ∀ x, x < 20 → ad (20 * k + x) = am x) : tcV cy am 9 = (cIds k).map (gW cy ad) := by
  have e0 : ad (20 * k) = am 0 := h 0 (by decide)
  have e1 : ad (20 * k + 1) = am 1 := h 1 (by decide)
  have g0 : gW cy ad (20 * k) = (am 0, .inr (1, [.ref (am 1), .int 0, .int 0])) := by
    unfold gW
    rw [teE_circ cy ad 0 S00 hk, e0, e1]
    rfl
  have g1 : gW cy ad (20 * k + 1) = (am 1, .inl (cy 5, 9, .inr (.inr (.inr (.inr (mA am 9)))))) := by
    unfold gW
    rw [teE_mems cy ad 0 S00 hk, e1]
    refine congrArg (fun f => (am 1, (Sum.inl (cy 5, 9, .inr (.inr (.inr (.inr f)))) : va_E))) ?_
    funext j
    unfold mA
    by_cases hj : j < 9
    · rw [if_pos hj, if_pos hj, Nat.add_assoc, h _ (by omega)]
    · rw [if_neg hj, if_neg hj]
  unfold tcV cIds
  rw [List.map_cons, List.map_cons, g0, g1, mW_ids hk h 9 (Nat.le_refl _)]
theorem kW_ids {bm : Nat → Nat → Nat} (h : ∀ j, j < 14 → ∀ x, x < 20 → ad (20 * (2 + j) + x) = bm j x) : ∀ i, i ≤ 14 → kW cy bm i = (kIds i).map (gW cy ad)
  | 0, _ => rfl
  | i + 1, hi => by
    show kW cy bm i ++ tcV cy (bm i) 9 = (kIds i ++ cIds (2 + i)).map (gW cy ad)
    rw [List.map_append, kW_ids h i (by omega), tcV_ids (show 2 + i < 18 by omega) (h i (by omega))]
/-- the addresses by their ids -/
def amF (a0 a1 : Nat → Nat) (bm : Nat → Nat → Nat) (a2 a3 : Nat → Nat) (k : Nat) : Nat → Nat := if k = 0 then a0 else if k = 1 then a1 else if k < 16 then bm (k - 2) else if k = 16 then a2 else a3
def adF (am : Nat → Nat → Nat) (gl : List Nat) (i : Nat) : Nat := if i < 360 then am (i / 20) (i % 20) else gl.getD (i - 360) 0
theorem adF_c (am : Nat → Nat → Nat) (gl : List Nat) {k : Nat} (hk : k < 18) (x : Nat) (hx : x < 20) : adF am gl (20 * k + x) = am k x := by
  unfold adF
  rw [if_pos (by omega), show (20 * k + x) / 20 = k by omega, show (20 * k + x) % 20 = x by omega]
theorem all_ids (h0 tx tc : Nat) (a0 a1 : Nat → Nat) (hh ha : Nat) (bm : Nat → Nat → Nat) (sl : Nat) (a2 a3 : Nat → Nat) (sv bq rk : Nat) :
    xW cy h0 tx tc a0 a1 hh ha bm sl a2 a3 sv bq rk = xIds.map (gW cy (adF (amF a0 a1 bm a2 a3) [h0, tx, tc, hh, ha, sl, sv, bq, rk])) := by
  generalize hgl : [h0, tx, tc, hh, ha, sl, sv, bq, rk] = gl
  have hf : ∀ i, adF (amF a0 a1 bm a2 a3) gl (360 + i) = gl.getD i 0 := fun i => by
    unfold adF
    rw [if_neg (by omega), Nat.add_sub_cancel_left]
  have c0 := tcV_ids (cy := cy) (ad := adF (amF a0 a1 bm a2 a3) gl) (show 0 < 18 by decide) (am := a0) (fun x hx => adF_c _ gl (k := 0) (by decide) x hx)
  have c1 := tcV_ids (cy := cy) (ad := adF (amF a0 a1 bm a2 a3) gl) (show 1 < 18 by decide) (am := a1) (fun x hx => adF_c _ gl (k := 1) (by decide) x hx)
  have c2 := tcV_ids (cy := cy) (ad := adF (amF a0 a1 bm a2 a3) gl) (show 16 < 18 by decide) (am := a2) (fun x hx => adF_c _ gl (k := 16) (by decide) x hx)
  have c3 := tcV_ids (cy := cy) (ad := adF (amF a0 a1 bm a2 a3) gl) (show 17 < 18 by decide) (am := a3) (fun x hx => adF_c _ gl (k := 17) (by decide) x hx)
  have ck := kW_ids (cy := cy) (ad := adF (amF a0 a1 bm a2 a3) gl) (bm := bm) (fun j hj x hx => by
    rw [adF_c _ gl (show 2 + j < 18 by omega) x hx]
    unfold amF
    rw [if_neg (by omega), if_neg (by omega), if_pos (by omega), Nat.add_sub_cancel_left]) 14 (Nat.le_refl _)
  have e0 : ∀ j, j < 14 → adF (amF a0 a1 bm a2 a3) gl (20 * (2 + j)) = bm j 0 := fun j hj => by
    have h1 := adF_c (amF a0 a1 bm a2 a3) gl (show 2 + j < 18 by omega) 0 (by decide)
    rw [Nat.add_zero] at h1
    rw [h1]
    unfold amF
    rw [if_neg (by omega), if_neg (by omega), if_pos (by omega), Nat.add_sub_cancel_left]
  have f16 : adF (amF a0 a1 bm a2 a3) gl (20 * (16 + 0)) = a2 0 := adF_c (amF a0 a1 bm a2 a3) gl (k := 16) (by decide) 0 (by decide)
  have f17 : adF (amF a0 a1 bm a2 a3) gl (20 * (16 + 1)) = a3 0 := adF_c (amF a0 a1 bm a2 a3) gl (k := 17) (by decide) 0 (by decide)
  have f0 : adF (amF a0 a1 bm a2 a3) gl (20 * 0) = a0 0 := adF_c (amF a0 a1 bm a2 a3) gl (k := 0) (by decide) 0 (by decide)
  have f1 : adF (amF a0 a1 bm a2 a3) gl (20 * 1) = a1 0 := adF_c (amF a0 a1 bm a2 a3) gl (k := 1) (by decide) 0 (by decide)
  have hd : ∀ i, ∀ v, gl.getD i 0 = v → adF (amF a0 a1 bm a2 a3) gl (360 + i) = v := fun i v hv => (hf i).trans hv
  subst hgl
  have s360 := hd 0 h0 rfl
  have s361 := hd 1 tx rfl
  have s362 := hd 2 tc rfl
  have s363 := hd 3 hh rfl
  have s364 := hd 4 ha rfl
  have s365 := hd 5 sl rfl
  have s366 := hd 6 sv rfl
  have s367 := hd 7 bq rfl
  have s368 := hd 8 rk rfl
  generalize adF (amF a0 a1 bm a2 a3) [h0, tx, tc, hh, ha, sl, sv, bq, rk] = ad at *
  clear hf hd
  have w360 : gW cy ad 360 = (h0, .inr (5, [.ref tx, .ref (a0 0), .ref (a1 0), .ref hh, .ref sl, .ref sv, .ref bq])) := by
    show (ad 360, (Sum.inr (5, [.ref (ad 361), .ref (ad (20 * 0)), .ref (ad (20 * 1)), .ref (ad 363), .ref (ad 365), .ref (ad 366), .ref (ad 367)]) : va_E)) = _
    rw [s360, s361, f0, f1, s363, s365, s366, s367]
  have w361 : gW cy ad 361 = (tx, .inr (4, [.ref tc, .int 0])) := by
    show (ad 361, (Sum.inr (4, [.ref (ad 362), .int 0]) : va_E)) = _
    rw [s361, s362]
  have w362 : gW cy ad 362 = (tc, .inl (cy 1, 90, .inl fun _ => 0)) := by
    show (ad 362, (Sum.inl (cy 1, 90, .inl fun _ => 0) : va_E)) = _
    rw [s362]
  have w363 : gW cy ad 363 = (hh, .inr (2, [.ref ha, .int 0, .int 0])) := by
    show (ad 363, (Sum.inr (2, [.ref (ad 364), .int 0, .int 0]) : va_E)) = _
    rw [s363, s364]
  have w364 : gW cy ad 364 = (ha, .inl (cy 4, 14, .inr (.inr (.inr (.inr (hhA bm 14)))))) := by
    show (ad 364, (Sum.inl (cy 4, 14, .inr (.inr (.inr (.inr fun j => if j < 14 then some (ad (20 * (2 + j))) else none)))) : va_E)) = _
    rw [s364]
    refine congrArg (fun f => (ha, (Sum.inl (cy 4, 14, .inr (.inr (.inr (.inr f)))) : va_E))) ?_
    funext j
    unfold hhA
    by_cases hj : j < 14
    · rw [if_pos hj, if_pos hj, e0 j hj]
    · rw [if_neg hj, if_neg hj]
  have w365 : gW cy ad 365 = (sl, .inl (cy 4, 2, .inr (.inr (.inr (.inr (va_up (va_up (fun _ => none) 0 (some (a2 0))) 1 (some (a3 0)))))))) := by
    show (ad 365, (Sum.inl (cy 4, 2, .inr (.inr (.inr (.inr fun j => if j < 2 then some (ad (20 * (16 + j))) else none)))) : va_E)) = _
    rw [s365]
    refine congrArg (fun f => (sl, (Sum.inl (cy 4, 2, .inr (.inr (.inr (.inr f)))) : va_E))) ?_
    funext j
    unfold va_up
    by_cases h1 : j = 1
    · subst h1
      rw [if_pos (by decide), if_pos rfl, f17]
    · rw [if_neg h1]
      by_cases h2 : j = 0
      · subst h2
        rw [if_pos (by decide), if_pos rfl, f16]
      · rw [if_neg h2, if_neg (by omega)]
  have w366 : gW cy ad 366 = (sv, .inl (cy 2, 2, .inl fun _ => 0)) := by
    show (ad 366, (Sum.inl (cy 2, 2, .inl fun _ => 0) : va_E)) = _
    rw [s366]
  have w367 : gW cy ad 367 = (bq, .inr (0, [.ref rk])) := by
    show (ad 367, (Sum.inr (0, [.ref (ad 368)]) : va_E)) = _
    rw [s367, s368]
  have w368 : gW cy ad 368 = (rk, .inl (cy 0, 512, .inl fun _ => 0)) := by
    show (ad 368, (Sum.inl (cy 0, 512, .inl fun _ => 0) : va_E)) = _
    rw [s368]
  unfold xW hV xT xB xIds
  rw [c0, c1, c2, c3, ck]
  simp only [List.map_append, List.map_cons, List.map_nil, w360, w361, w362, w363, w364, w365, w366, w367, w368]
end S74
