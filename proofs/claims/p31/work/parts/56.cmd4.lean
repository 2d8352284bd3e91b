section S56
variable {n M : Nat} {v : tePg} {S T : teS}
theorem d1000 {g : Nat} (hg : g < 10000) : nI g / (1000 : Int32) = nI (g / 1000) := by rw [li1000, nn_div (by omega) (by decide) (by decide)]
theorem d100 {g : Nat} (hg : g < 10000) : (nI g / (100 : Int32)) - (nI g / (100 : Int32)) / (10 : Int32) * (10 : Int32) = nI (g / 100 % 10) := by rw [li100, li10, nn_div (by omega) (by decide) (by decide), nn_rem (by omega) (by decide) (by decide)]
theorem d10 {g : Nat} (hg : g < 10000) : (nI g / (10 : Int32)) - (nI g / (10 : Int32)) / (10 : Int32) * (10 : Int32) = nI (g / 10 % 10) := by rw [li10, nn_div (d := 10) (by omega) (by decide) (by decide), nn_rem (by omega) (by decide) (by decide)]
theorem d1 {g : Nat} (hg : g < 10000) : nI g - nI g / (10 : Int32) * (10 : Int32) = nI (g % 10) := by rw [li10, nn_rem (by omega) (by decide) (by decide)]
end S56
