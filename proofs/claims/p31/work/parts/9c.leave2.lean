/-! HANDS: a member leaves; the best of the others -/
def un (a c : Nat) : Nat := if c < a then c else c - 1
theorem sk_un {a c : Nat} (h : c ≠ a) : sk a (un a c) = c := by
  unfold un
  by_cases h1 : c < a
  · rw [if_pos h1]
    exact if_pos h1
  · rw [if_neg h1]
    unfold sk
    rw [if_neg (by omega)]
    omega
theorem sk_inj {a c d : Nat} (h : sk a c = sk a d) : c = d := by
  unfold sk at h
  split at h <;> split at h <;> omega
theorem sk_ne (a c : Nat) : sk a c ≠ a := by
  unfold sk
  split <;> omega
def mp2 (f : Nat → Nat) (ps : List (Nat × Nat)) : List (Nat × Nat) := ps.map fun q => (f q.1, f q.2)
theorem fl_mp (f : Nat → Nat) : ∀ (ps : List (Nat × Nat)), fl (mp2 f ps) = (fl ps).map f
  | [] => rfl
  | q :: ps => by
    show f q.1 :: f q.2 :: fl (mp2 f ps) = f q.1 :: f q.2 :: (fl ps).map f
    rw [fl_mp f ps]
theorem mp_un (a : Nat) : ∀ (ps : List (Nat × Nat)), (∀ x, x ∈ fl ps → x ≠ a) → mp2 (sk a) (mp2 (un a) ps) = ps
  | [], _ => rfl
  | q :: ps, h => by
    show (sk a (un a q.1), sk a (un a q.2)) :: mp2 (sk a) (mp2 (un a) ps) = q :: ps
    rw [mp_un a ps (fun x hx => h x (List.mem_cons_of_mem _ (List.mem_cons_of_mem _ hx))), sk_un (h _ List.mem_cons_self), sk_un (h _ (List.mem_cons_of_mem _ List.mem_cons_self))]
theorem nd_map {f : Nat → Nat} {P : Nat → Prop} (hf : ∀ x y, P x → P y → f x = f y → x = y) : ∀ (l : List Nat), (∀ x, x ∈ l → P x) → l.Nodup → (l.map f).Nodup
  | [], _, _ => List.nodup_nil
  | x :: l, hP, h => by
    have h1 := List.nodup_cons.mp h
    refine List.nodup_cons.mpr ⟨fun hm => ?_, nd_map hf l (fun y hy => hP y (List.mem_cons_of_mem _ hy)) h1.2⟩
    obtain ⟨y, hy, e⟩ := List.mem_map.mp hm
    have := hf y x (hP y (List.mem_cons_of_mem _ hy)) (hP x List.mem_cons_self) e
    rw [this] at hy
    exact h1.1 hy
theorem mp2_len (f : Nat → Nat) (ps : List (Nat × Nat)) : (mp2 f ps).length = ps.length := List.length_map _
section S9C
variable {n M : Nat} {v : tePg} {a : Nat}
theorem lv_o (hW : WF n M v) (ha : a < n) {c : Nat} (hc : c < n - 1) {o : Nat} (ho : o < 8) : sLeave n a v (2 + 10 * c + o) = v (2 + 10 * sk a c + o) := by
  have hL := LV_0b (lv_leave hW ha)
  rw [hL.2.2 c hc o (by omega), if_neg (by omega), mp_l v a _ ho]
theorem lv_sL (hW : WF n M v) (ha : a < n) {c d : Nat} (hc : c < n - 1) (hd : d < n - 1) : sL (sLeave n a v) c d = sL v (sk a c) (sk a d) := by
  have h5 := pw_lt hW (sk_n ha hc).1
  have h4 : pw (sLeave n a v) c = pw v (sk a c) := by unfold pw; rw [lv_o hW ha hc (by decide)]
  unfold sL
  rw [h4, lv_o hW ha hd (by omega), lv_o hW ha hc (by omega)]
theorem lv_sFit (hW : WF n M v) (ha : a < n) {c d : Nat} (hc : c < n - 1) (hd : d < n - 1) : sFit (sLeave n a v) c d = sFit v (sk a c) (sk a d) := by
  unfold sFit
  rw [lv_sL hW ha hc hd, lv_sL hW ha hd hc]
theorem lv_sVal (hW : WF n M v) (ha : a < n) {c d : Nat} (hc : c < n - 1) (hd : d < n - 1) : sVal (sLeave n a v) c d = sVal v (sk a c) (sk a d) := by
  unfold sVal sSc
  rw [lv_sL hW ha hc hd, lv_sL hW ha hd hc, lv_o hW ha hd (by decide), lv_o hW ha hd (by decide), lv_o hW ha hc (by decide), lv_o hW ha hc (by decide)]
/-- the credits of the others -/
theorem s1_split (g : Nat → Int32) : ∀ (d1 d2 c : Nat) (x : Int32), s1 g (d1 + d2) c x = s1 g d2 (c + d1) (s1 g d1 c x)
  | 0, d2, c, x => by rw [Nat.zero_add]; rfl
  | d1 + 1, d2, c, x => by
    rw [show d1 + 1 + d2 = (d1 + d2) + 1 by omega, s1, s1, s1_split g d1 d2 (c + 1), show c + 1 + d1 = c + (d1 + 1) by omega]
theorem s1_shift (g : Nat → Int32) : ∀ (d c : Nat) (x : Int32), s1 (fun i => g (i + 1)) d c x = s1 g d (c + 1) x
  | 0, _, _ => rfl
  | d + 1, c, x => by rw [s1, s1, s1_shift g d (c + 1)]
theorem s1_sk (g : Nat → Int32) (ha : a < n) : s1 g n 0 0 = s1 (fun c => g (sk a c)) (n - 1) 0 0 + g a := by
  have e1 : n = a + (1 + (n - 1 - a)) := by omega
  have e2 : n - 1 = a + (n - 1 - a) := by omega
  have h1 : s1 g n 0 0 = s1 g (n - 1 - a) (a + 1) (s1 g a 0 0 + g a) := by
    conv => lhs; rw [e1]
    rw [s1_split, s1_split, Nat.zero_add]; rfl
  have h2 : s1 (fun c => g (sk a c)) (n - 1) 0 0 = s1 g (n - 1 - a) (a + 1) (s1 g a 0 0) := by
    conv => lhs; rw [e2]
    rw [s1_split, Nat.zero_add, s1_cong (g := fun c => g (sk a c)) (f := g) a 0 0 (fun i _ hi => by show g (sk a i) = g i; rw [show sk a i = i from if_pos (by omega)]), s1_cong (g := fun c => g (sk a c)) (f := fun i => g (i + 1)) _ _ _ (fun i hi _ => by show g (sk a i) = g (i + 1); rw [show sk a i = i + 1 from if_neg (by omega)]), s1_shift]
  rw [h1, h2, show s1 g a 0 0 + g a = g a + s1 g a 0 0 by grind, s1_acc]
  grind
theorem lv_crd (hW : WF n M v) (ha : a < n) : crd (n - 1) (sLeave n a v) = crd n v - v (2 + 10 * a + 6) := by
  have h1 := s1_sk (fun c => v (2 + 10 * c + 6)) ha
  unfold crd
  rw [h1, s1_cong (g := fun c => sLeave n a v (2 + 10 * c + 6)) (f := fun c => v (2 + 10 * sk a c + 6)) (n - 1) 0 0 (fun i _ hi => lv_o hW ha (by omega) (by decide))]
  grind
/-- matchings of the others -/
abbrev lWo (n a : Nat) : List Nat := sm n (clr (2 ^ n - 1) a)
theorem lWo_in {x : Nat} : x ∈ lWo n a ↔ x < n ∧ x ≠ a := by
  rw [sm_in, clr_tb, Nat.testBit_two_pow_sub_one]
  constructor
  · rintro ⟨h1, h2⟩
    rw [Bool.and_eq_true] at h2
    refine ⟨h1, fun e => ?_⟩
    have := h2.2
    rw [decide_eq_true e.symm] at this
    cases this
  · rintro ⟨h1, h2⟩
    refine ⟨h1, ?_⟩
    rw [decide_eq_true h1, decide_eq_false (fun e => h2 e.symm)]; rfl
theorem mok_sk (hW : WF n M v) (ha : a < n) {ps : List (Nat × Nat)} (h : mOK (sLeave n a v) (bAll (n - 1)) ps) : mOK v (lWo n a) (mp2 (sk a) ps) := by
  refine ⟨?_, fun x hx => ?_, fun q hq => ?_⟩
  · rw [fl_mp]
    exact nd_map (P := fun _ => True) (fun x y _ _ e => sk_inj e) _ (fun _ _ => trivial) h.1
  · rw [fl_mp] at hx
    obtain ⟨y, hy, rfl⟩ := List.mem_map.mp hx
    exact lWo_in.mpr ⟨(sk_n ha (bAll_in.mp (h.2.1 y hy))).1, sk_ne a y⟩
  · obtain ⟨p, hp, rfl⟩ := List.mem_map.mp hq
    have h3 := mem_fl hp
    rw [← lv_sFit hW ha (bAll_in.mp (h.2.1 _ h3.1)) (bAll_in.mp (h.2.1 _ h3.2))]
    exact h.2.2 p hp
theorem ms_sk (hW : WF n M v) (ha : a < n) : ∀ (ps : List (Nat × Nat)), (∀ x, x ∈ fl ps → x < n - 1) → msum v (mp2 (sk a) ps) = msum (sLeave n a v) ps
  | [], _ => rfl
  | q :: ps, h => by
    show (sVal v (sk a q.1) (sk a q.2)).toInt + msum v (mp2 (sk a) ps) = (sVal (sLeave n a v) q.1 q.2).toInt + msum (sLeave n a v) ps
    rw [ms_sk hW ha ps (fun x hx => h x (List.mem_cons_of_mem _ (List.mem_cons_of_mem _ hx))), lv_sVal hW ha (h _ List.mem_cons_self) (h _ (List.mem_cons_of_mem _ List.mem_cons_self))]
theorem un_lt {x : Nat} (ha : a < n) (hx : x < n) (hxa : x ≠ a) : un a x < n - 1 := by
  unfold un
  split <;> omega
theorem mok_un (hW : WF n M v) (ha : a < n) {ps : List (Nat × Nat)} (h : mOK v (lWo n a) ps) : mOK (sLeave n a v) (bAll (n - 1)) (mp2 (un a) ps) := by
  have hin : ∀ x, x ∈ fl ps → x < n ∧ x ≠ a := fun x hx => lWo_in.mp (h.2.1 x hx)
  refine ⟨?_, fun x hx => ?_, fun q hq => ?_⟩
  · rw [fl_mp]
    exact nd_map (P := fun x => x ≠ a) (fun x y hx hy e => by rw [← sk_un hx, ← sk_un hy, e]) _ (fun x hx => (hin x hx).2) h.1
  · rw [fl_mp] at hx
    obtain ⟨y, hy, rfl⟩ := List.mem_map.mp hx
    exact bAll_in.mpr (un_lt ha (hin y hy).1 (hin y hy).2)
  · obtain ⟨p, hp, rfl⟩ := List.mem_map.mp hq
    have h3 := mem_fl hp
    have k1 := hin _ h3.1
    have k2 := hin _ h3.2
    show sFit (sLeave n a v) (un a p.1) (un a p.2) = true
    rw [lv_sFit hW ha (un_lt ha k1.1 k1.2) (un_lt ha k2.1 k2.2), sk_un k1.2, sk_un k2.2]
    exact h.2.2 p hp
theorem wf_leave (hW : WF n M v) (ha : a < n) : WF (n - 1) M (sLeave n a v) := wf_lv (wf_mp hW ha) ha mp_8a (LV_0b (lv_leave hW ha))
theorem IV_leave (hW : WF n M v) (hI : IV n v) (ha : a < n) : IV (n - 1) (sLeave n a v) := IV_lv (wf_mp hW ha) (IV_mp hW ha hI) ha mp_8a (LV_0b (lv_leave hW ha))
theorem best_leave (hW : WF n M v) (hM : M ≤ 4000) (ha : a < n) : bR (sLeave n a v) (bAll (n - 1)) = bR v (lWo n a) := by
  have h9 := hW.1
  have hp1 := p2_pos (n - 1)
  have hW2 := wf_leave hW ha
  have hv1 := bR_ex hW2 (by omega) (show 2 ^ (n - 1) - 1 < 2 ^ (n - 1) by omega)
  have hv2 := bR_ex hW (by omega) (clr_al n a)
  obtain ⟨ps, b1, b2, -, -, -, -, b7⟩ := best_of hW2 (by omega) (sm_nd _ _) (fun x hx => (sm_in.mp hx).1) hv1
  obtain ⟨qs, c1, c2, -, -, -, -, c7⟩ := best_of hW (by omega) (sm_nd _ _) (fun x hx => (sm_in.mp hx).1) hv2
  have m1 := mok_sk hW ha b1
  have m2 := mok_un hW ha c1
  have e1 := ms_sk hW ha ps (fun x hx => bAll_in.mp (b1.2.1 x hx))
  have e2 := ms_sk hW ha (mp2 (un a) qs) (fun x hx => bAll_in.mp (m2.2.1 x hx))
  rw [mp_un a qs (fun x hx => (lWo_in.mp (c1.2.1 x hx)).2)] at e2
  have k1 := c7 _ m1
  have k2 := b7 _ m2
  rw [mp2_len] at k1 k2
  have hl : ps.length = qs.length := Nat.le_antisymm k1.1 k2.1
  have k3 := k1.2 hl
  have k4 := k2.2 hl.symm
  show bR (sLeave n a v) (sm (n - 1) (2 ^ (n - 1) - 1)) = bR v (sm n (clr (2 ^ n - 1) a))
  rw [b2, c2, hl]
  omega
end S9C
