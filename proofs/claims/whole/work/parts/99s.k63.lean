/-- the text of rule 0 -/
def tZ : Int → Int := fun j => if 0 ≤ j ∧ j < 48 then ((sByt.getD 0 []).getD j.toNat 0).toInt else 0
theorem tZ_A : txA tZ 48 := by decide +kernel
theorem tZ_0 : (txRow tZ 48 0).map cm = [10000, 3, -8, 10001, 10, -8, -6] ∧ (txRow tZ 48 0).length = 7 := by decide +kernel
theorem tZ_1 : (txRow tZ 48 1).map cm = [10003, 10002, -4] ∧ (txRow tZ 48 1).length = 3 := by decide +kernel
theorem tZ_v : vs (txRow tZ 48 0) 0 = some 1 ∧ vs (txRow tZ 48 1) 0 = some 1 := by decide +kernel
theorem tZ_b : TapeB tZ := by
  intro k
  unfold tZ
  have : ∀ j : Nat, j < 48 → -128 ≤ ((sByt.getD 0 []).getD j 0).toInt ∧ ((sByt.getD 0 []).getD j 0).toInt ≤ 127 := by decide +kernel
  split
  · exact this _ (by omega)
  · decide
theorem tZ_c : ∀ j : Nat, j < 48 → 0 ≤ ((sByt.getD 0 []).getD j 0).toInt ∧ ((sByt.getD 0 []).getD j 0).toInt ≤ 127 := by decide +kernel
