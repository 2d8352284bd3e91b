/-! ONE COMMAND of a script -/
section S53
variable {n M : Nat} {v : tePg} {S T : teS}
theorem r1_isM' (hW : WF n M v) (hE : PE n (S 1) v) (x : Int32) : fX1_has 1 x S = some (bI (isM n x)) := r1_isM (hE.1.trans hW.2.2.1) x
end S53
