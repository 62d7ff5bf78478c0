/-! ===== the constructors of the class and of the reference ===== -/
/-- the class's fresh state -/
def cF (M : zM) : Prop := cI M ∧ frsh M ∧ M 5 8 = 250 ∧ noOut M ∧ (∀ j : Int, 0 ≤ j → j < 3 → M (nA j) 4 = 0) ∧ (∀ v : Int, 0 ≤ v → v < 8 → M 3 v = v ∧ M 4 v = v) ∧ M 0 8 = 0 ∧ M 0 9 = -9 ∧ M 0 10 = -9
theorem netOK_0 {M : zM} {b : Nat} (h4 : M b 4 = 0) (h5 : M b 5 = 0) : netOK M b := ⟨fun g g0 g1 => by omega, fun o o0 o1 => by omega⟩
theorem cF_mk {M N : zM} (hf : ∀ a : Nat, a ≠ 12 → a ≠ 13 → M a = N a) (h12 : ∀ h : Int, 0 ≤ h → h < 12 → M 12 h = -1) (h13 : ∀ h : Int, 0 ≤ h → h < 40 → M 13 h = -1) (hp : pI N) (h58 : N 5 8 = 250) (ho : ∀ v : Int, 0 ≤ v → v < 8 → N 3 v = v ∧ N 4 v = v) (h0 : N 0 7 = 0 ∧ N 0 8 = 0 ∧ N 0 9 = -9 ∧ N 0 10 = -9) (h16 : N 16 4 = 0 ∧ N 16 5 = 0) (h21 : N 21 4 = 0 ∧ N 21 5 = 0) (h26 : N 26 4 = 0 ∧ N 26 5 = 0) : cF M := by
  have e0 := hf 0 (by decide) (by decide)
  have e3 := hf 3 (by decide) (by decide)
  have e4 := hf 4 (by decide) (by decide)
  have e5 := hf 5 (by decide) (by decide)
  have e16 := hf 16 (by decide) (by decide)
  have e21 := hf 21 (by decide) (by decide)
  have e26 := hf 26 (by decide) (by decide)
  refine ⟨⟨pI_fr hp e5 (hf 6 (by decide) (by decide)) (hf 10 (by decide) (by decide)) (hf 11 (by decide) (by decide)), fun v v0 v1 => ?_, ?_, ?_, ?_⟩, ⟨h12, h13, ?_⟩, ?_, fun j j0 j1 => ?_, fun j j0 j1 => ?_, fun v v0 v1 => ?_, ?_, ?_, ?_⟩
  · rw [e4, (ho v v0 v1).2]; exact v0
  · exact netOK_0 (by rw [e16]; exact h16.1) (by rw [e16]; exact h16.2)
  · exact netOK_0 (by rw [e21]; exact h21.1) (by rw [e21]; exact h21.2)
  · exact netOK_0 (by rw [e26]; exact h26.1) (by rw [e26]; exact h26.2)
  · rw [e0]; exact h0.1
  · rw [e5]; exact h58
  · rcases (show j = 0 ∨ j = 1 ∨ j = 2 by omega) with rfl | rfl | rfl
    · exact (congrFun e16 5).trans h16.2
    · exact (congrFun e21 5).trans h21.2
    · exact (congrFun e26 5).trans h26.2
  · rcases (show j = 0 ∨ j = 1 ∨ j = 2 by omega) with rfl | rfl | rfl
    · exact (congrFun e16 4).trans h16.1
    · exact (congrFun e21 4).trans h21.1
    · exact (congrFun e26 4).trans h26.1
  · rw [e3, e4]; exact ho v v0 v1
  · rw [e0]; exact h0.2.1
  · rw [e0]; exact h0.2.2.1
  · rw [e0]; exact h0.2.2.2
def jw (J : zJ) : zJ := uz (uz (uz (uz (uz (uz (uz (uz J 54 0 0) 54 1 0) 54 2 (-4294967296)) 54 3 (-281470681808896)) 54 4 (-71777214294589696)) 54 5 (-1085102592571150096)) 54 6 (-3689348814741910324)) 54 7 (-6148914691236517206)
theorem jw_wh {J : zJ} : ∀ p : Int, 2 ≤ p → p ≤ 7 → jw J 54 p = whF p := by
  intro p h1 h2
  rcases (show p = 2 ∨ p = 3 ∨ p = 4 ∨ p = 5 ∨ p = 6 ∨ p = 7 by omega) with rfl | rfl | rfl | rfl | rfl | rfl <;> rfl
def mdl (M M' : zM) : Prop := (∀ a : Nat, a ≠ 31 → a ≠ 38 → a ≠ 39 → a ≠ 50 → a ≠ 51 → M' a = M a) ∧ ∀ j : Int, j ≠ 8 → M' 31 j = M 31 j
theorem mdl_st {M M' : zM} {a : Nat} {j v : Int} (h : mdl M M') (ha : a = 38 ∨ a = 39 ∨ a = 50 ∨ a = 51) : mdl M (uz M' a j v) := ⟨fun b h1 h2 h3 h4 h5 => by rw [uz_o (by omega)]; exact h.1 b h1 h2 h3 h4 h5, fun k hk => by rw [uz_oo (by omega)]; exact h.2 k hk⟩
def idO (M : zM) (k : Int) : Prop := ∀ w : Int, 0 ≤ w → w < k → M 38 w = w ∧ M 39 w = w
theorem idO_st {M : zM} {a : Nat} {j v k : Int} (h : idO M k) (h1 : (38 : Nat) ≠ a) (h2 : (39 : Nat) ≠ a) : idO (uz M a j v) k := fun w a b => by rw [uz_oo h1, uz_oo h2]; exact h w a b
