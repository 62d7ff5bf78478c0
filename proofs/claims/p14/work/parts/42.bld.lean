/-! ===== the reference: needs, builds ===== -/
abbrev kNd (a : Nat) : Prop := ¬ a = 55 ∧ ¬ a = 56
abbrev kRg (a : Nat) : Prop := a < 31 ∨ (31 < a ∧ a < 43) ∨ a = 54
/-- a net of the reference: gates are told of gates before them, outputs of gates -/
def rNt (M : zM) (net : Int) : Prop := (∀ g : Int, 0 ≤ g → g < M 32 net → (∀ c : Int, 0 ≤ c → c < opF (M 34 (40 * net + g)) → 0 ≤ M 35 (3 * (40 * net + g) + c) ∧ M 35 (3 * (40 * net + g) + c) < g) ∧ (M 34 (40 * net + g) = 0 → 0 ≤ M 35 (3 * (40 * net + g)) ∧ M 35 (3 * (40 * net + g)) < 8)) ∧ ∀ o : Int, 0 ≤ o → o < M 33 net → M 36 (4 * net + o) < M 32 net
theorem rNt_fr {M M' : zM} {net : Int} (h : rNt M net) (e32 : M' 32 = M 32) (e33 : M' 33 = M 33) (e34 : M' 34 = M 34) (e35 : M' 35 = M 35) (e36 : M' 36 = M 36) : rNt M' net := by
  unfold rNt
  rw [e32, e33, e34, e35, e36]
  exact h
/-- which gates are needed, and by which last -/
def ndQ (M : zM) (g : Int) : Prop := ¬ M 55 g = 0 ∧ ∀ x : Int, 0 ≤ x → x < 40 → (¬ M 55 x = 0 → x = g ∨ 0 ≤ M 56 x) ∧ (0 ≤ M 56 x → x < M 56 x ∧ M 56 x ≤ g ∧ ¬ M 55 (M 56 x) = 0)
theorem ndQ_fr {M M' : zM} {g : Int} (h : ndQ M g) (e55 : M' 55 = M 55) (e56 : M' 56 = M 56) : ndQ M' g := by
  unfold ndQ
  rw [e55, e56]
  exact h
theorem ndQ_st {M : zM} {g k x v : Int} (h : ndQ M g) (hxk : x < k) (hkg : k ≤ g) (hk : ¬ M 55 k = 0) (hx0 : 0 ≤ x) (hx : x < 40) (hv : (M 56 x < 0 ∧ v = k) ∨ (0 ≤ M 56 x ∧ v = M 56 x)) : ndQ (uz (uz M 55 x 1) 56 x v) g := by
  have e55 : ∀ y : Int, ¬ M 55 y = 0 → ¬ uz (uz M 55 x 1) 56 x v 55 y = 0 := fun y q => by
    rw [uz_oo (by decide), uz_a]
    split
    · decide
    · exact q
  refine ⟨e55 g h.1, fun y y0 y1 => ⟨fun q => ?_, fun q => ?_⟩⟩
  · rw [uz_a]
    by_cases e : y = x
    · rw [if_pos e]; right; omega
    · rw [if_neg e]
      rw [uz_oo (by decide), uz_n e] at q
      exact (h.2 y y0 y1).1 q
  · rw [uz_a] at q ⊢
    by_cases e : y = x
    · rw [if_pos e] at q ⊢
      rcases hv with ⟨-, rfl⟩ | ⟨q2, rfl⟩
      · exact ⟨by omega, hkg, e55 _ hk⟩
      · obtain ⟨z1, z2, z3⟩ := (h.2 x hx0 hx).2 q2
        exact ⟨by omega, z2, e55 _ z3⟩
    · rw [if_neg e] at q ⊢
      obtain ⟨z1, z2, z3⟩ := (h.2 y y0 y1).2 q
      exact ⟨z1, z2, e55 _ z3⟩
def bdI (M : zM) (g k : Int) : Prop := ∀ x : Int, 0 ≤ x → x < 40 → ¬ M 43 (12 + x) = 0 → x < k ∧ ¬ M 55 x = 0 ∧ (x = g ∨ k ≤ M 56 x)
def bdJ (M : zM) (g k u : Int) : Prop := ∀ x : Int, 0 ≤ x → x < 40 → ¬ M 43 (12 + x) = 0 → x < k + 1 ∧ ¬ M 55 x = 0 ∧ (x = g ∨ k + 1 ≤ M 56 x ∨ (u ≤ x ∧ M 56 x = k))
theorem bdI_skip {M : zM} {g k : Int} (h : bdI M g k) (hn : ndQ M g) (hk : M 55 k = 0) : bdI M g (k + 1) := fun x x0 x1 q => by
  obtain ⟨h1, h2, h3⟩ := h x x0 x1 q
  refine ⟨by omega, h2, ?_⟩
  rcases h3 with e | e
  · exact Or.inl e
  · right
    by_cases z : M 56 x = k
    · exfalso
      have w := ((hn.2 x x0 x1).2 (by omega)).2.2
      rw [z] at w
      exact w hk
    · omega
theorem bdJ_0 {M M' : zM} {g k : Int} (h : bdI M g k) (hn : ndQ M g) (k0 : 0 ≤ k) (k1 : k < 40) (hkg : k ≤ g) (hk : ¬ M 55 k = 0) (e43 : ∀ f : Int, f ≠ 12 + k → M' 43 f = M 43 f) (e55 : M' 55 = M 55) (e56 : M' 56 = M 56) : bdJ M' g k 0 := fun x x0 x1 q => by
  rw [e55, e56]
  by_cases e : x = k
  · subst e
    refine ⟨by omega, hk, ?_⟩
    have w := hn.2 x x0 x1
    rcases w.1 hk with z | z
    · exact Or.inl z
    · have := (w.2 z).1
      right; left; omega
  · rw [e43 _ (by omega)] at q
    obtain ⟨h1, h2, h3⟩ := h x x0 x1 q
    refine ⟨by omega, h2, ?_⟩
    omega
theorem bdJ_skip {M : zM} {g k u : Int} (h : bdJ M g k u) (hq : M 55 u = 0 ∨ ¬ M 56 u = k) : bdJ M g k (u + 1) := fun x x0 x1 q => by
  obtain ⟨h1, h2, h3⟩ := h x x0 x1 q
  refine ⟨h1, h2, ?_⟩
  by_cases e : x = u
  · subst e
    rcases hq with z | z
    · exact absurd z h2
    · omega
  · omega
theorem bdJ_rm {M M' : zM} {g k u : Int} (h : bdJ M g k u) (e0 : M' 43 (12 + u) = 0) (e43 : ∀ f : Int, f ≠ 12 + u → M' 43 f = M 43 f) (e55 : M' 55 = M 55) (e56 : M' 56 = M 56) : bdJ M' g k (u + 1) := fun x x0 x1 q => by
  by_cases e : x = u
  · subst e
    exact absurd e0 q
  · rw [e43 _ (by omega)] at q
    rw [e55, e56]
    obtain ⟨h1, h2, h3⟩ := h x x0 x1 q
    refine ⟨h1, h2, ?_⟩
    omega
theorem bdI_of {M : zM} {g k : Int} (h : bdJ M g k k) (hn : ndQ M g) : bdI M g (k + 1) := fun x x0 x1 q => by
  obtain ⟨h1, h2, h3⟩ := h x x0 x1 q
  refine ⟨h1, h2, ?_⟩
  rcases h3 with e | e | ⟨e1, e2⟩
  · exact Or.inl e
  · exact Or.inr e
  · exfalso
    have w := ((hn.2 x x0 x1).2 (by omega)).1
    omega
theorem bd_end {M : zM} {g : Int} (h : bdI M g (g + 1)) (hn : ndQ M g) : ∀ y : Int, 0 ≤ y → y < 40 → y ≠ g → M 43 (12 + y) = 0 := fun y y0 y1 hy => by
  by_cases q : M 43 (12 + y) = 0
  · exact q
  · exfalso
    obtain ⟨h1, h2, h3⟩ := h y y0 y1 q
    rcases h3 with e | e
    · exact hy e
    · have w := (hn.2 y y0 y1).2 (by omega)
      omega
theorem TI_fr {M M' : zM} {J : zJ} (h : TI M J) (o : ∀ a : Nat, (a = 31 ∨ (43 ≤ a ∧ a ≤ 52)) → M' a = M a) : TI M' J := by
  have e31 := o 31 (by omega)
  have e43 := o 43 (by omega)
  have e45 := o 45 (by omega)
  have e46 := o 46 (by omega)
  have e47 := o 47 (by omega)
  have e49 := o 49 (by omega)
  have e50 := o 50 (by omega)
  have e51 := o 51 (by omega)
  have e52 := o 52 (by omega)
  unfold TI tabA tabB tabC tabU at *
  have hc : ∀ n : Int, cfn M' lo0 n 56 = cfn M lo0 n 56 := fun n => cfn_congr (fun g _ _ => by unfold inS; rw [e43, e45, e46])
  have hS : ∀ g m : Int, (inS M' g 0 m ↔ inS M g 0 m) := fun g m => by unfold inS; rw [e45, e46]
  have hm : ∀ (n d : Int) (P : Int → Int64), mtc M' J n d P ↔ mtc M J n d P := fun n d P => by unfold mtc; rw [e47]
  simp only [hc, hS, hm, e31, e43, e45, e46, e47, e49, e50, e51, e52]
  exact h
