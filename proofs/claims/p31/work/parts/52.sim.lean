/-! SIMULATE -/
def simB (n : Nat) (F : Int64 → tePg → tePg) (y : Int64) (r : Int32) (v : tePg) : tePg := F y (sWeek n ((r / (4 : Int32)) - (r / (4 : Int32)) / (512 : Int32) * (512 : Int32)) (if r - r / (4 : Int32) * (4 : Int32) = 0 then (mt n 4 v).2 else v))
def sim (n : Nat) : Nat → Int64 → tePg → tePg
  | 0, _, v => v
  | m + 1, x, v => simB n (fun y w => sim n m y w) ((x * (6364136223846793005 : Int64)) + (1442695040888963407 : Int64)) (((((x * (6364136223846793005 : Int64)) + (1442695040888963407 : Int64))).toUInt64 >>> (((33 : Int32)).toInt64.toUInt64 &&& Int64.toUInt64 63)).toInt64).toInt32 v
theorem sim_s (n m : Nat) (x : Int64) (v : tePg) : sim n (m + 1) x v = simB n (fun y w => sim n m y w) ((x * (6364136223846793005 : Int64)) + (1442695040888963407 : Int64)) (((((x * (6364136223846793005 : Int64)) + (1442695040888963407 : Int64))).toUInt64 >>> (((33 : Int32)).toInt64.toUInt64 &&& Int64.toUInt64 63)).toInt64).toInt32 v := by rw [sim]
def crd (n : Nat) (v : tePg) : Int32 := s1 (fun a => v (2 + 10 * a + 6)) n 0 0
section S52
variable {n : Nat}
theorem r1_crd {M k : Nat} {v : tePg} {S : teS} (hW : WF n M v) (hE : PE n (S k) v) : fX1_sumOfCredits k S = some (crd n v) := by
  have h9 := hW.1
  exact c1_crd1 hW hE n 0 2000 0 (by omega) (by omega)
theorem c5_sim {X : Nat} (hX : X ≤ 60) (s : Int64) : ∀ (m c fuel M : Nat) (v : tePg) (S : teS) (x : Int64), WF n M v → PE n (S 1) v → M + 9 * m < 100000 → c + m = X → m < fuel → ∃ p, fX5_simulate_24 s (nI X) fuel S x (nI c) = some (.inr (crd n (sim n m x v), tst S 1 p))
  | 0, c, fuel, M, v, S, x, hW, hE, hM, hc, hf => by
    obtain ⟨f, rfl⟩ : ∃ f, fuel = f + 1 := ⟨fuel - 1, by omega⟩
    unfold fX5_simulate_24
    rw [if_pos (by rw [nn_le (by omega) (by omega)]; omega), r1_crd hW hE, nn_bd1, sim]
    exact ⟨S 1, by rw [tst_i]⟩
  | m + 1, c, fuel, M, v, S, x, hW, hE, hM, hc, hf => by
    obtain ⟨f, rfl⟩ : ∃ f, fuel = f + 1 := ⟨fuel - 1, by omega⟩
    have ih : ∀ (w : tePg) (T : teS) (y : Int64), WF n (M + 9) w → PE n (T 1) w → ∃ p, fX5_simulate_24 s (nI X) f T y (nI (c + 1)) = some (.inr (crd n (sim n m y w), tst T 1 p)) := fun w T y g1 g2 => c5_sim hX s m (c + 1) f (M + 9) w T y g1 g2 (by omega) (by omega) (by omega)
    unfold fX5_simulate_24
    rw [if_neg (by rw [nn_le (by omega) (by omega)]; omega), sim_s]
    generalize (((((x * (6364136223846793005 : Int64)) + (1442695040888963407 : Int64))).toUInt64 >>> (((33 : Int32)).toInt64.toUInt64 &&& Int64.toUInt64 63)).toInt64).toInt32 = r
    generalize (x * (6364136223846793005 : Int64)) + (1442695040888963407 : Int64) = y
    unfold simB fX5_simulate_65
    generalize (r / (4 : Int32)) - (r / (4 : Int32)) / (512 : Int32) * (512 : Int32) = ab
    by_cases h : r - r / (4 : Int32) * (4 : Int32) = 0
    · rw [if_pos h, if_pos h]
      obtain ⟨p, h1, h2⟩ := r1_match hW hE
      have hW2 := wf_mt 4 v hW
      obtain ⟨p2, h3, h4⟩ := r1_week (k := 1) (S := tst S 1 p) hW2 (by rw [tst_s]; exact h2) (by omega) ab
      obtain ⟨p3, h5⟩ := ih _ (tst S 1 p2) y (wf_week hW2 (by omega) ab) (by rw [tst_s]; exact h4)
      rw [h1, nn_bd2, h3, nn_bd1, tst_t, li1, nn_add, h5, tst_t]
      exact ⟨p3, rfl⟩
    · rw [if_neg h, if_neg h]
      obtain ⟨p2, h3, h4⟩ := r1_week hW hE (by omega) ab
      obtain ⟨p3, h5⟩ := ih _ (tst S 1 p2) y (wf_week hW (by omega) ab) (by rw [tst_s]; exact h4)
      rw [h3, nn_bd1, li1, nn_add, h5, tst_t]
      exact ⟨p3, rfl⟩
end S52
