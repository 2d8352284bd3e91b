theorem rwf_cong {M : Nat} {x y : tePg} (h : ∀ o, o < 10 → x o = y o) (hy : rwf M y) : rwf M x :=
  ⟨fun l hl => by rw [h l (by omega)]; exact hy.1 l hl, by rw [h 4 (by decide)]; exact hy.2.1, by rw [h 6 (by decide)]; exact hy.2.2.1, by rw [h 7 (by decide)]; exact hy.2.2.2⟩
theorem rwf_same {M a : Nat} {F : tePg → tePg} {v : tePg} (h : rwf M (F (row v a))) : rwf M (row (rop F a v) a) := rwf_cong (fun o ho => rop_in F a v ho) h
theorem rwf_oth {M a c : Nat} {F : tePg → tePg} {v : tePg} (hc : c ≠ a) (h : rwf M (row v c)) : rwf M (row (rop F a v) c) := rwf_cong (fun o ho => rop_c F v hc ho) h
theorem PE_rop {n a : Nat} {F : tePg → tePg} {p v : tePg} (hF : rok F) (hE : PE n p v) (h : ∀ o, o < 10 → p (2 + 10 * a + o) = v (2 + 10 * a + o)) : PE n (rop F a p) (rop F a v) := by
  refine ⟨?_, ?_, fun c hc => ⟨fun o ho => ?_, fun hn => ?_⟩⟩
  · rw [rop_out _ _ (by omega), rop_out _ _ (by omega)]; exact hE.1
  · rw [rop_out _ _ (by omega), rop_out _ _ (by omega)]; exact hE.2.1
  · by_cases hca : c = a
    · subst hca
      rw [rop_in _ _ _ (by omega), rop_in _ _ _ (by omega)]
      exact hF _ _ h o (by omega)
    · rw [rop_c _ _ hca (by omega), rop_c _ _ hca (by omega)]
      exact (hE.2.2 c hc).1 o ho
  · by_cases hca : c = a
    · subst hca
      rw [rop_in _ _ _ (by omega), rop_in _ _ _ (by omega)]
      exact hF _ _ h 9 (by omega)
    · rw [rop_c _ _ hca (by omega)] at hn
      rw [rop_c _ _ hca (by omega), rop_c _ _ hca (by omega)]
      exact (hE.2.2 c hc).2 hn
theorem wf_two {n M N a b : Nat} {v : tePg} {F G : tePg → tePg} (hW : WF n M v) (ha : a < n) (hb : b < n) (hab : a ≠ b) (hMN : M ≤ N) (hN : N < 100000) (wa : rwf N (F (row v a))) (wb : rwf N (G (row v b))) (hG : rok G)
    (h8a : F (row v a) 8 = v (2 + 10 * a + 8)) (h8b : G (row v b) 8 = v (2 + 10 * b + 8)) (h9 : F (row v a) 9 = G (row v b) 9) (hp : v (2 + 10 * a + 8) = nI b) (hq : v (2 + 10 * b + 8) = nI a) : WF n N (rop G b (rop F a v)) := by
  have h9n := hW.1
  have ea : ∀ o, o < 10 → rop G b (rop F a v) (2 + 10 * a + o) = F (row v a) o := fun o ho => by rw [rop_c G _ hab ho, rop_in F a v ho]
  have eb : ∀ o, o < 10 → rop G b (rop F a v) (2 + 10 * b + o) = G (row v b) o := fun o ho => by rw [rop_in G b _ ho]; exact hG _ _ (fun q hq => rop_c F v (Ne.symm hab) hq) o ho
  have ec : ∀ c, c ≠ a → c ≠ b → ∀ o, o < 10 → rop G b (rop F a v) (2 + 10 * c + o) = v (2 + 10 * c + o) := fun c h1 h2 o ho => by rw [rop_c G _ h2 ho, rop_c F v h1 ho]
  refine ⟨h9n, hN, by rw [rop_out _ _ (by omega), rop_out _ _ (by omega)]; exact hW.2.2.1, fun c hc => ?_⟩
  by_cases h1 : c = a
  · subst h1
    refine ⟨fun l hl => by rw [ea l (by omega)]; exact wa.1 l hl, by rw [ea 4 (by decide)]; exact wa.2.1, by rw [ea 6 (by decide)]; exact wa.2.2.1, by rw [ea 7 (by decide)]; exact wa.2.2.2, Or.inr ⟨b, hb, Ne.symm hab, ?_, ?_, ?_⟩⟩
    · rw [ea 8 (by decide), h8a, hp]
    · rw [eb 8 (by decide), h8b, hq]
    · rw [ea 9 (by decide), eb 9 (by decide), h9]
  · by_cases h2 : c = b
    · subst h2
      refine ⟨fun l hl => by rw [eb l (by omega)]; exact wb.1 l hl, by rw [eb 4 (by decide)]; exact wb.2.1, by rw [eb 6 (by decide)]; exact wb.2.2.1, by rw [eb 7 (by decide)]; exact wb.2.2.2, Or.inr ⟨a, ha, hab, ?_, ?_, ?_⟩⟩
      · rw [eb 8 (by decide), h8b, hq]
      · rw [ea 8 (by decide), h8a, hp]
      · rw [ea 9 (by decide), eb 9 (by decide), h9]
    · obtain ⟨g1, g2, g3, g4, g5⟩ := hW.2.2.2 c hc
      refine ⟨fun l hl => by rw [ec c h1 h2 l (by omega)]; exact g1 l hl, by rw [ec c h1 h2 4 (by decide)]; exact g2, by rw [ec c h1 h2 6 (by decide)]; exact g3, by rw [ec c h1 h2 7 (by decide)]; exact g4.elim fun m hm => ⟨m, by omega, hm.2⟩, ?_⟩
      rw [ec c h1 h2 8 (by decide), ec c h1 h2 9 (by decide)]
      rcases g5 with g5 | ⟨d, hd, hdc, k1, k2, k3⟩
      · exact Or.inl g5
      · have n1 : d ≠ a := by
          rintro rfl
          rw [hp, nn_eq (by omega) (by omega)] at k2
          exact h2 k2.symm
        have n2 : d ≠ b := by
          rintro rfl
          rw [hq, nn_eq (by omega) (by omega)] at k2
          exact h1 k2.symm
        exact Or.inr ⟨d, hd, hdc, k1, by rw [ec d n1 n2 8 (by decide)]; exact k2, by rw [ec d n1 n2 9 (by decide)]; exact k3⟩
theorem wf_le {n M N : Nat} {v : tePg} (hW : WF n M v) (h : M ≤ N) (hN : N < 100000) : WF n N v :=
  ⟨hW.1, hN, hW.2.2.1, fun a ha => ⟨(hW.2.2.2 a ha).1, (hW.2.2.2 a ha).2.1, (hW.2.2.2 a ha).2.2.1, (hW.2.2.2 a ha).2.2.2.1.elim fun m hm => ⟨m, by omega, hm.2⟩, (hW.2.2.2 a ha).2.2.2.2⟩⟩
def bt (x : Int32) (a : Nat) : Bool := decide (((x >>> (nI a &&& 31)) &&& 1) = 1)
def cM (p : Int32) : Int32 := if 1 ≤ p then p else 1
theorem cM_c (p : Int32) : (if (1 : Int32) < p then p else 1) = cM p := by
  unfold cM
  by_cases h : 1 < p
  · rw [if_pos h, if_pos (Int32.le_of_lt h)]
  · rw [if_neg h]
    by_cases h2 : 1 ≤ p
    · rw [if_pos h2]
      exact Int32.le_antisymm h2 (Int32.not_lt.mp h)
    · rw [if_neg h2]
def sMeet (x : Int32) (a b : Nat) (v : tePg) : tePg := if (bt x a || bt x b) = true then rop (fM (bt x b)) b (rop (fM (bt x a)) a v) else rop (fK (cM (4 + sL v b a))) b (rop (fK (cM (4 + sL v a b))) a v)
section S39
variable {n M k r a b : Nat} {v : tePg} {S : teS}
theorem wf_meet (hW : WF n M v) (hM : M + 1 < 100000) (ha : a < n) (hb : b < n) (hab : a ≠ b) (hp : v (2 + 10 * a + 8) = nI b) (hq : v (2 + 10 * b + 8) = nI a) (h9 : v (2 + 10 * b + 9) = v (2 + 10 * a + 9)) (x : Int32) : WF n (M + 1) (sMeet x a b v) := by
  unfold sMeet
  split
  · refine wf_two hW ha hb hab (by omega) hM (rwf_M (wf_row hW ha) _) (rwf_M (wf_row hW hb) _) (rok_M _) (fM_8 _ _).1 (fM_8 _ _).1 ?_ hp hq
    rw [(fM_8 _ _).2, (fM_8 _ _).2]
    show v (2 + 10 * a + 9) + 1 = v (2 + 10 * b + 9) + 1
    rw [h9]
  · exact wf_two hW ha hb hab (by omega) hM (rwf_K (rwf_m (wf_row hW ha) (by omega)) _) (rwf_K (rwf_m (wf_row hW hb) (by omega)) _) (rok_K _) (fK_8 _ _).1 (fK_8 _ _).1 (by rw [(fK_8 _ _).2, (fK_8 _ _).2]) hp hq
theorem bt_if {α : Type} (x : Int32) (a : Nat) (y z : α) : (if ((x >>> (nI a &&& 31)) &&& 1) = 1 then y else z) = if bt x a = true then y else z := by
  unfold bt
  by_cases h : ((x >>> (nI a &&& 31)) &&& 1) = 1
  · rw [if_pos h, if_pos (decide_eq_true h)]
  · rw [if_neg h, if_neg (by rw [decide_eq_false h]; decide)]
theorem bt_1 {x : Int32} {a : Nat} (h : ((x >>> (nI a &&& 31)) &&& 1) = 1) : bt x a = true := decide_eq_true h
theorem bt_0 {x : Int32} {a : Nat} (h : ¬ ((x >>> (nI a &&& 31)) &&& 1) = 1) : bt x a = false := decide_eq_false h
theorem PE_a {n a b : Nat} {p v : tePg} (hE : PE n p v) (h9 : n ≤ 9) (ha : a < n) (hb : b < n) (hp : v (2 + 10 * a + 8) = nI b) : ∀ o, o < 10 → p (2 + 10 * a + o) = v (2 + 10 * a + o) := fun o ho => by
  have na : v (2 + 10 * a + 8) ≠ -9999 := by rw [hp]; intro h; exact absurd h (by rw [nn_NI (by omega)]; exact not_false)
  rcases Nat.lt_or_ge o 9 with h | h
  · exact (hE.2.2 a ha).1 o h
  · obtain rfl : o = 9 := by omega
    exact (hE.2.2 a ha).2 na
theorem r1_miss42 (ha : a < 9) (hb : b < 9) (hab : a ≠ b) (wa : rwf M (row (S k) a)) (wb : rwf M (row (S k) b)) (x : Int32) (y z : Bool) : fX1_passWeekOfPair_42 k (nI a) (nI b) x S (bI y) (bI z) = some (tst S k (rop (fM z) b (rop (fM y) a (S k)))) := by
  unfold fX1_passWeekOfPair_42
  rw [nn_in (by omega) (by decide), nn_tn (by omega), r3_miss ha y wa, nn_bd1, nn_in (by omega) (by decide), nn_tn (by omega), r3_miss (M := M) hb z (by rw [tst_s]; exact rwf_oth (Ne.symm hab) wb), nn_bd1, tst_s, tst_t]
theorem r1_meet0 (hW : WF n M v) (hE : PE n (S k) v) (ha : a < n) (hb : b < n) (hab : a ≠ b) (wa : rwf M (row (S k) a)) (wb : rwf M (row (S k) b)) (x : Int32) : fX1_passWeekOfPair_30 k (nI a) (nI b) x S 0 0 = some (tst S k (rop (fK (cM (4 + sL v b a))) b (rop (fK (cM (4 + sL v a b))) a (S k)))) := by
  have h9 := hW.1
  unfold fX1_passWeekOfPair_30
  rw [if_pos rfl, if_pos rfl]
  unfold fX1_pointsOfMeeting
  rw [r1_lead hW hE ha hb, nn_bd1, nn_bd1, r1_lead hW hE hb ha, nn_bd1, nn_bd1, nn_in (by omega) (by decide), nn_tn (by omega), cM_c, cM_c]
  generalize cM (4 + sL v a b) = p1
  generalize cM (4 + sL v b a) = p2
  rw [r3_meet (by omega) wa, nn_bd1, nn_in (by omega) (by decide), nn_tn (by omega), r3_meet (M := M) (by omega) (by rw [tst_s]; exact rwf_oth (Ne.symm hab) wb), nn_bd1, tst_s, tst_t]
theorem r1_meet30 (hW : WF n M v) (hE : PE n (S k) v) (ha : a < n) (hb : b < n) (hab : a ≠ b) (wa : rwf M (row (S k) a)) (wb : rwf M (row (S k) b)) (x : Int32) (y z : Bool) : fX1_passWeekOfPair_30 k (nI a) (nI b) x S (bI y) (bI z) = some (tst S k (if (y || z) = true then rop (fM z) b (rop (fM y) a (S k)) else rop (fK (cM (4 + sL v b a))) b (rop (fK (cM (4 + sL v a b))) a (S k)))) := by
  have h9 := hW.1
  cases y
  · cases z
    · rw [if_neg (show ¬ (false || false) = true by decide)]
      exact r1_meet0 hW hE ha hb hab wa wb x
    · rw [if_pos (show (false || true) = true by decide), ← r1_miss42 (show a < 9 by omega) (show b < 9 by omega) hab wa wb x]
      unfold fX1_passWeekOfPair_30
      rw [if_pos (show bI false = 0 from rfl), if_neg (show ¬ bI true = 0 by decide)]
  · rw [if_pos (show (true || z) = true from rfl), ← r1_miss42 (show a < 9 by omega) (show b < 9 by omega) hab wa wb x]
    unfold fX1_passWeekOfPair_30
    rw [if_neg (show ¬ bI true = 0 by decide)]
theorem r1_meetE (hW : WF n M v) (hE : PE n (S k) v) (ha : a < n) (hb : b < n) (hab : a ≠ b) (wa : rwf M (row (S k) a)) (wb : rwf M (row (S k) b)) (x : Int32) (y z : Bool) (hy : bt x a = y) (hz : bt x b = z) (hA : fX1_passWeekOfPair k (nI a) (nI b) x S = fX1_passWeekOfPair_30 k (nI a) (nI b) x S (bI y) (bI z)) : fX1_passWeekOfPair k (nI a) (nI b) x S = some (tst S k (if (bt x a || bt x b) = true then rop (fM (bt x b)) b (rop (fM (bt x a)) a (S k)) else rop (fK (cM (4 + sL v b a))) b (rop (fK (cM (4 + sL v a b))) a (S k)))) := by
  rw [hy, hz, hA]
  exact r1_meet30 hW hE ha hb hab wa wb x y z
theorem r1_meet (hW : WF n M v) (hE : PE n (S k) v) (ha : a < n) (hb : b < n) (hab : a ≠ b) (hp : v (2 + 10 * a + 8) = nI b) (hq : v (2 + 10 * b + 8) = nI a) (x : Int32) : ∃ p, fX1_passWeekOfPair k (nI a) (nI b) x S = some (tst S k p) ∧ PE n p (sMeet x a b v) := by
  have h9 := hW.1
  have fa := PE_a hE h9 ha hb hp
  have fb := PE_a hE h9 hb ha hq
  have wa : rwf M (row (S k) a) := rwf_cong fa (wf_row hW ha)
  have wb : rwf M (row (S k) b) := rwf_cong fb (wf_row hW hb)
  refine ⟨(if (bt x a || bt x b) = true then rop (fM (bt x b)) b (rop (fM (bt x a)) a (S k)) else rop (fK (cM (4 + sL v b a))) b (rop (fK (cM (4 + sL v a b))) a (S k))), ?_, ?_⟩
  · by_cases hA : ((x >>> (nI a &&& 31)) &&& 1) = 1
    · by_cases hB : ((x >>> (nI b &&& 31)) &&& 1) = 1
      · refine r1_meetE hW hE ha hb hab wa wb x true true (bt_1 hA) (bt_1 hB) ?_
        unfold fX1_passWeekOfPair fX1_passWeekOfPair_14
        rw [if_pos hA, if_pos hB, bI_t]
      · refine r1_meetE hW hE ha hb hab wa wb x true false (bt_1 hA) (bt_0 hB) ?_
        unfold fX1_passWeekOfPair fX1_passWeekOfPair_14
        rw [if_pos hA, if_neg hB, bI_t, bI_f]
    · by_cases hB : ((x >>> (nI b &&& 31)) &&& 1) = 1
      · refine r1_meetE hW hE ha hb hab wa wb x false true (bt_0 hA) (bt_1 hB) ?_
        unfold fX1_passWeekOfPair fX1_passWeekOfPair_14
        rw [if_neg hA, if_pos hB, bI_t, bI_f]
      · refine r1_meetE hW hE ha hb hab wa wb x false false (bt_0 hA) (bt_0 hB) ?_
        unfold fX1_passWeekOfPair fX1_passWeekOfPair_14
        rw [if_neg hA, if_neg hB, bI_f]
  · unfold sMeet
    by_cases hc : (bt x a || bt x b) = true
    · rw [if_pos hc, if_pos hc]
      refine PE_rop (rok_M _) (PE_rop (rok_M _) hE fa) (fun o ho => ?_)
      rw [rop_c _ _ (Ne.symm hab) ho, rop_c _ _ (Ne.symm hab) ho]
      exact fb o ho
    · rw [if_neg hc, if_neg hc]
      refine PE_rop (rok_K _) (PE_rop (rok_K _) hE fa) (fun o ho => ?_)
      rw [rop_c _ _ (Ne.symm hab) ho, rop_c _ _ (Ne.symm hab) ho]
      exact fb o ho
theorem rop_2 (F G : tePg → tePg) (hF : rok F) (hG : rok G) (hab : a ≠ b) (v : tePg) : rop F b (rop F a (rop G b (rop G a v))) = rop (fun x => F (G x)) b (rop (fun x => F (G x)) a v) := by
  rw [rop_comm hF hG hab, rop_rop hF, rop_rop hF]
theorem rop_K (q : Int32) (hab : a ≠ b) (v : tePg) : rop (fL q) a (rop (fun x => fC 1 (f0 x)) b (rop (fun x => fC 1 (f0 x)) a v)) = rop (fun x => fC 1 (f0 x)) b (rop (fK q) a v) := by
  rw [rop_comm (rok_L _) (rok_c (F := fC 1) (rok_C 1) rok_0) hab, rop_rop (rok_L _)]
  rfl
theorem rop_K2 (q : Int32) (v : tePg) : rop (fL q) b (rop (fun x => fC 1 (f0 x)) b v) = rop (fK q) b v := by
  rw [rop_rop (rok_L _)]
  rfl
end S39
