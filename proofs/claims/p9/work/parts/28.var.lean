/-! ===== the reference on a fresh object: variable, combine, drop ===== -/
/-- the reference's fresh state -/
def rF (M : zM) (J : zJ) : Prop := (noHr M ∧ noOutR M ∧ emptyT M ∧ (∀ g : Int, 0 ≤ g → g < 56 → M 45 g = 0) ∧ M 31 8 = 250 ∧ M 31 27 = 0 ∧ M 52 0 = 0) ∧ (∀ p : Int, 2 ≤ p → p ≤ 7 → J 54 p = whF p) ∧ (∀ v : Int, 0 ≤ v → v < 8 → M 39 v = v ∧ M 38 v = v) ∧ (M 31 25 = 0 ∧ M 31 33 = -9 ∧ M 31 34 = -9) ∧ ∀ j : Int, 0 ≤ j → j < 3 → M 32 j = 0
