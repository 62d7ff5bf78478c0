/-! ===== the reference on a fresh object: add of a variable ===== -/
def emptyT (M : zM) : Prop := (∀ b : Int, 0 ≤ b → b < 512 → M 51 b = -1) ∧ M 31 23 = 0 ∧ M 50 0 = 1 ∧ M 31 24 = 0
theorem mtc_congr {M : zM} {J : zJ} {n d : Int} {P P' : Int → Int64} (e : ∀ k : Int, 0 ≤ k → k < 4 → P k = P' k) (q : mtc M J n d P) : mtc M J n d P' := by
  unfold mtc at *
  rw [← e 0 (by decide) (by decide), ← e 1 (by decide) (by decide), ← e 2 (by decide) (by decide), ← e 3 (by decide) (by decide)]
  exact q
