/-! ===== the reference on a fresh object: add of a variable ===== -/
theorem mtc_congr {M : zM} {J : zJ} {n d : Int} {P P' : Int → Int64} (e : ∀ k : Int, 0 ≤ k → k < 4 → P k = P' k) (q : mtc M J n d P) : mtc M J n d P' := by
  unfold mtc at *
  rw [← e 0 (by decide) (by decide), ← e 1 (by decide) (by decide), ← e 2 (by decide) (by decide), ← e 3 (by decide) (by decide)]
  exact q
