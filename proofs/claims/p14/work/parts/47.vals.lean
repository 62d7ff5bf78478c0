/-! ===== what an output gives, on both sides ===== -/
def odB (kd : Int → Int) (od : Int → Int → Int) (n : Int) : Prop := ∀ g : Int, 0 ≤ g → g < n → ∀ c : Int, 0 ≤ c → c < opF (kd g) → 0 ≤ od g c ∧ od g c < g
