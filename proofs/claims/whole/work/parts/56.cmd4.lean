section S56
variable {n M : Nat} {v : tePg} {S T : teS}
theorem d1000 {g : Nat} (hg : g < 10000) : nI g / (1000 : Int32) = nI (g / 1000) := by rw [li1000, nn_div (by omega) (by decide) (by decide)]
theorem d100 {g : Nat} (hg : g < 10000) : (nI g / (100 : Int32)) - (nI g / (100 : Int32)) / (10 : Int32) * (10 : Int32) = nI (g / 100 % 10) := by rw [li100, li10, nn_div (by omega) (by decide) (by decide), nn_rem (by omega) (by decide) (by decide)]
theorem d10 {g : Nat} (hg : g < 10000) : (nI g / (10 : Int32)) - (nI g / (10 : Int32)) / (10 : Int32) * (10 : Int32) = nI (g / 10 % 10) := by rw [li10, nn_div (d := 10) (by omega) (by decide) (by decide), nn_rem (by omega) (by decide) (by decide)]
theorem d1 {g : Nat} (hg : g < 10000) : nI g - nI g / (10 : Int32) * (10 : Int32) = nI (g % 10) := by rw [li10, nn_rem (by omega) (by decide) (by decide)]
theorem cmd (hW : WF n M v) (hE : PE n (S 1) v) (hT : T 373 = v) (hM : M + 9 < 100000) {g : Nat} (hg : g < 10000) : CMD n (M + 9) S T (fX5_commandSucceeds (nI g) S) (fX6_does (nI (g / 1000)) (nI (g / 100 % 10)) (nI (g / 10 % 10)) (nI (g % 10)) T) := by
  have hx : g / 100 % 10 < 10 := Nat.mod_lt _ (by decide)
  have hy : g / 10 % 10 < 10 := Nat.mod_lt _ (by decide)
  have hz : g % 10 < 10 := Nat.mod_lt _ (by decide)
  have hq : g / 1000 < 10 := by omega
  unfold fX5_commandSucceeds
  rw [d1000 hg, d100 hg, d10 hg, d1 hg]
  generalize g / 100 % 10 = x at hx
  generalize g / 10 % 10 = y at hy
  generalize g % 10 = z at hz
  generalize g / 1000 = q at hq
  rcases (show q = 0 ∨ q = 1 ∨ q = 2 ∨ q = 3 ∨ q = 4 ∨ q = 5 ∨ q = 6 ∨ q = 7 ∨ q = 8 ∨ q = 9 by omega) with rfl | rfl | rfl | rfl | rfl | rfl | rfl | rfl | rfl | rfl
  · refine cmd_no hW hE hT hM ?_ ?_
    · rw [if_neg (show ¬ nI 0 = 1 by decide), if_neg (show ¬ nI 0 = 2 by decide), if_neg (show ¬ nI 0 = 3 by decide), if_neg (show ¬ nI 0 = 4 by decide), if_neg (show ¬ nI 0 = 5 by decide), if_neg (show ¬ nI 0 = 6 by decide), if_neg (show ¬ nI 0 = 7 by decide), if_neg (show ¬ nI 0 = 8 by decide), if_neg (show ¬ nI 0 = 9 by decide)]
    · rw [does_eq hW.1 (by rw [hT]; exact hW.2.2.1)]
      unfold fX6_does_31
      rw [if_neg (show ¬ nI 0 = 1 by decide), if_neg (show ¬ nI 0 = 2 by decide), if_neg (show ¬ nI 0 = 3 by decide), if_neg (show ¬ nI 0 = 4 by decide), if_neg (show ¬ nI 0 = 5 by decide), if_neg (show ¬ nI 0 = 6 by decide), if_neg (show ¬ nI 0 = 7 by decide), if_neg (show ¬ nI 0 = 8 by decide), if_neg (show ¬ nI 0 = 9 by decide)]
  · rw [if_pos (show nI 1 = 1 from rfl)]
    exact cmd1 hW hE hT hM hx hy hz
  · rw [if_neg (show ¬ nI 2 = 1 by decide), if_pos (show nI 2 = 2 from rfl)]
    exact cmd2 hW hE hT hM hx hy hz
  · rw [if_neg (show ¬ nI 3 = 1 by decide), if_neg (show ¬ nI 3 = 2 by decide), if_pos (show nI 3 = 3 from rfl)]
    exact cmd3 hW hE hT hM hx hy hz
  · rw [if_neg (show ¬ nI 4 = 1 by decide), if_neg (show ¬ nI 4 = 2 by decide), if_neg (show ¬ nI 4 = 3 by decide), if_pos (show nI 4 = 4 from rfl)]
    exact cmd4 hW hE hT hM hx hy hz
  · rw [if_neg (show ¬ nI 5 = 1 by decide), if_neg (show ¬ nI 5 = 2 by decide), if_neg (show ¬ nI 5 = 3 by decide), if_neg (show ¬ nI 5 = 4 by decide), if_pos (show nI 5 = 5 from rfl)]
    exact cmd5 hW hE hT hM hx hy hz
  · rw [if_neg (show ¬ nI 6 = 1 by decide), if_neg (show ¬ nI 6 = 2 by decide), if_neg (show ¬ nI 6 = 3 by decide), if_neg (show ¬ nI 6 = 4 by decide), if_neg (show ¬ nI 6 = 5 by decide), if_pos (show nI 6 = 6 from rfl)]
    exact cmd6 hW hE hT hM hx hy hz
  · rw [if_neg (show ¬ nI 7 = 1 by decide), if_neg (show ¬ nI 7 = 2 by decide), if_neg (show ¬ nI 7 = 3 by decide), if_neg (show ¬ nI 7 = 4 by decide), if_neg (show ¬ nI 7 = 5 by decide), if_neg (show ¬ nI 7 = 6 by decide), if_pos (show nI 7 = 7 from rfl)]
    exact cmd7 hW hE hT hM hx hy hz
  · rw [if_neg (show ¬ nI 8 = 1 by decide), if_neg (show ¬ nI 8 = 2 by decide), if_neg (show ¬ nI 8 = 3 by decide), if_neg (show ¬ nI 8 = 4 by decide), if_neg (show ¬ nI 8 = 5 by decide), if_neg (show ¬ nI 8 = 6 by decide), if_neg (show ¬ nI 8 = 7 by decide), if_pos (show nI 8 = 8 from rfl)]
    exact cmd8 hW hE hT hM hx hy hz
  · rw [if_neg (show ¬ nI 9 = 1 by decide), if_neg (show ¬ nI 9 = 2 by decide), if_neg (show ¬ nI 9 = 3 by decide), if_neg (show ¬ nI 9 = 4 by decide), if_neg (show ¬ nI 9 = 5 by decide), if_neg (show ¬ nI 9 = 6 by decide), if_neg (show ¬ nI 9 = 7 by decide), if_neg (show ¬ nI 9 = 8 by decide), if_pos (show nI 9 = 9 from rfl)]
    exact cmd9 hW hE hT hM hx hy hz
end S56
