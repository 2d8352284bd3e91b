/-! STEPS: undo, save, restore, the text's changes -/
theorem ch_c : ∀ c : Fin 256, vp_nar .char (((nI c.val).toUInt32 % 65536).toInt32) = nI c.val := by decide +kernel
theorem bl_1 : vp_nar .boolean (1 : Int32) = 1 := by decide +kernel
section S45
variable {K n : Nat} {S : teS}
end S45
