/-! ===== calls on nets: what they leave as it was ===== -/
theorem fr_gate {M M1 M2 : zM} {J : zJ} {net k u v w x y : Int} (h : LI M J) (hok : zOK M) (h1 : (((net < 0 ∨ 3 ≤ net) ∧ x = -1 ∧ M1 = M) ∨ (0 ≤ net ∧ net < 3 ∧ (k < 0 ∨ 10 < k) ∧ x = -2 ∧ M1 = M) ∨ (0 ≤ net ∧ net < 3 ∧ 0 ≤ k ∧ k ≤ 10 ∧ ¬ ((opF k < 1 ∨ (0 ≤ u ∧ u < M (nA net) 4)) ∧ (opF k < 2 ∨ (0 ≤ v ∧ v < M (nA net) 4)) ∧ (opF k < 3 ∨ (0 ≤ w ∧ w < M (nA net) 4))) ∧ x = -1 ∧ M1 = M) ∨ (0 ≤ net ∧ net < 3 ∧ 0 ≤ k ∧ k ≤ 10 ∧ ((opF k < 1 ∨ (0 ≤ u ∧ u < M (nA net) 4)) ∧ (opF k < 2 ∨ (0 ≤ v ∧ v < M (nA net) 4)) ∧ (opF k < 3 ∨ (0 ≤ w ∧ w < M (nA net) 4))) ∧ ((k = 0 ∧ (u < 0 ∨ 8 ≤ u) ∧ x = -2 ∧ M1 = M) ∨ ((¬ k = 0 ∨ (0 ≤ u ∧ u < 8)) ∧ ((x = -4 ∧ M1 = M ∧ 40 ≤ M (nA net) 4) ∨ (x = M (nA net) 4 ∧ M (nA net) 4 < 40 ∧ M1 = uz (uz (uz (uz (uz M (nA net + 1) (M (nA net) 4) k) (nA net + 2) (3 * M (nA net) 4) u) (nA net + 2) (3 * M (nA net) 4 + 1) v) (nA net + 2) (3 * M (nA net) 4 + 2) w) (nA net) 4 (M (nA net) 4 + 1)))))))) (h2 : (((net < 0 ∨ 3 ≤ net) ∧ y = -1 ∧ M2 = M1) ∨ (0 ≤ net ∧ net < 3 ∧ (k < 0 ∨ 10 < k) ∧ y = -2 ∧ M2 = M1) ∨ (0 ≤ net ∧ net < 3 ∧ 0 ≤ k ∧ k ≤ 10 ∧ ¬ ((opF k < 1 ∨ (0 ≤ u ∧ u < M1 32 net)) ∧ (opF k < 2 ∨ (0 ≤ v ∧ v < M1 32 net)) ∧ (opF k < 3 ∨ (0 ≤ w ∧ w < M1 32 net))) ∧ y = -1 ∧ M2 = M1) ∨ (0 ≤ net ∧ net < 3 ∧ 0 ≤ k ∧ k ≤ 10 ∧ ((opF k < 1 ∨ (0 ≤ u ∧ u < M1 32 net)) ∧ (opF k < 2 ∨ (0 ≤ v ∧ v < M1 32 net)) ∧ (opF k < 3 ∨ (0 ≤ w ∧ w < M1 32 net))) ∧ ((k = 0 ∧ (u < 0 ∨ 8 ≤ u) ∧ y = -2 ∧ M2 = M1) ∨ ((¬ k = 0 ∨ (0 ≤ u ∧ u < 8)) ∧ ((y = -4 ∧ M2 = M1 ∧ 40 ≤ M1 32 net) ∨ (y = M1 32 net ∧ M1 32 net < 40 ∧ M2 = uz (uz (uz (uz (uz M1 34 (40 * net + M1 32 net) k) 35 (3 * (40 * net + M1 32 net)) u) 35 (3 * (40 * net + M1 32 net) + 1) v) 35 (3 * (40 * net + M1 32 net) + 2) w) 32 net (M1 32 net + 1)))))))) : ∀ a : Nat, (a < 16 ∨ a = 31 ∨ 36 < a) → M2 a = M a := by
  intro a ha
  have e_h1 : M1 a = M a := by
    rcases h1 with ⟨-, -, e⟩ | ⟨-, -, -, -, e⟩ | ⟨-, -, -, -, -, -, e⟩ | ⟨n0, n1, -, -, -, ⟨-, -, -, e⟩ | ⟨-, ⟨-, e, -⟩ | ⟨-, -, e⟩⟩⟩
    · rw [e]
    · rw [e]
    · rw [e]
    · rw [e]
    · rw [e]
    · rw [e, uz_o (by unfold nA; omega), uz_o (by unfold nA; omega), uz_o (by unfold nA; omega), uz_o (by unfold nA; omega), uz_o (by unfold nA; omega)]
  have e_h2 : M2 a = M1 a := by
    rcases h2 with ⟨-, -, e⟩ | ⟨-, -, -, -, e⟩ | ⟨-, -, -, -, -, -, e⟩ | ⟨n0, n1, -, -, -, ⟨-, -, -, e⟩ | ⟨-, ⟨-, e, -⟩ | ⟨-, -, e⟩⟩⟩
    · rw [e]
    · rw [e]
    · rw [e]
    · rw [e]
    · rw [e]
    · rw [e, uz_o (by omega), uz_o (by omega), uz_o (by omega), uz_o (by omega), uz_o (by omega)]
  exact e_h2.trans e_h1
theorem fr_out {M M1 M2 : zM} {J : zJ} {net g x y : Int} (h : LI M J) (hok : zOK M) (h1 : (((net < 0 ∨ 3 ≤ net) ∧ x = -1 ∧ M1 = M) ∨ (0 ≤ net ∧ net < 3 ∧ (g < 0 ∨ M (nA net) 4 ≤ g) ∧ x = -1 ∧ M1 = M) ∨ (0 ≤ net ∧ net < 3 ∧ 0 ≤ g ∧ g < M (nA net) 4 ∧ ((x = -4 ∧ M1 = M ∧ 4 ≤ M (nA net) 5) ∨ (x = M (nA net) 5 ∧ M (nA net) 5 < 4 ∧ M1 = uz (uz M (nA net + 3) (M (nA net) 5) g) (nA net) 5 (M (nA net) 5 + 1)))))) (h2 : (((net < 0 ∨ 3 ≤ net) ∧ y = -1 ∧ M2 = M1) ∨ (0 ≤ net ∧ net < 3 ∧ (g < 0 ∨ M1 32 net ≤ g) ∧ y = -1 ∧ M2 = M1) ∨ (0 ≤ net ∧ net < 3 ∧ 0 ≤ g ∧ g < M1 32 net ∧ ((y = -4 ∧ M2 = M1 ∧ 4 ≤ M1 33 net) ∨ (y = M1 33 net ∧ M1 33 net < 4 ∧ M2 = uz (uz M1 36 (4 * net + M1 33 net) g) 33 net (M1 33 net + 1)))))) : ∀ a : Nat, (a < 16 ∨ a = 31 ∨ 36 < a) → M2 a = M a := by
  intro a ha
  have e_h1 : M1 a = M a := by
    rcases h1 with ⟨-, -, e⟩ | ⟨-, -, -, -, e⟩ | ⟨n0, n1, -, -, ⟨-, e, -⟩ | ⟨-, -, e⟩⟩
    · rw [e]
    · rw [e]
    · rw [e]
    · rw [e, uz_o (by unfold nA; omega), uz_o (by unfold nA; omega)]
  have e_h2 : M2 a = M1 a := by
    rcases h2 with ⟨-, -, e⟩ | ⟨-, -, -, -, e⟩ | ⟨n0, n1, -, -, ⟨-, e, -⟩ | ⟨-, -, e⟩⟩
    · rw [e]
    · rw [e]
    · rw [e]
    · rw [e, uz_o (by omega), uz_o (by omega)]
  exact e_h2.trans e_h1
theorem fr_clr {M M1 M2 : zM} {J : zJ} {net x y : Int} (h : LI M J) (h1 : ((net < 0 ∨ 3 ≤ net) ∧ x = -1 ∧ M1 = M) ∨ (0 ≤ net ∧ net < 3 ∧ x = M (nA net) 4 ∧ M1 = uz (uz M (nA net) 4 0) (nA net) 5 0)) (h2 : ((net < 0 ∨ 3 ≤ net) ∧ y = -1 ∧ M2 = M1) ∨ (0 ≤ net ∧ net < 3 ∧ y = M1 32 net ∧ M2 = uz (uz M1 32 net 0) 33 net 0)) : ∀ a : Nat, (a < 16 ∨ a = 31 ∨ 36 < a) → M2 a = M a := by
  intro a ha
  have e_h1 : M1 a = M a := by
    rcases h1 with ⟨-, -, e⟩ | ⟨n0, n1, -, e⟩
    · rw [e]
    · rw [e, uz_o (by unfold nA; omega), uz_o (by unfold nA; omega)]
  have e_h2 : M2 a = M1 a := by
    rcases h2 with ⟨-, -, e⟩ | ⟨n0, n1, -, e⟩
    · rw [e]
    · rw [e, uz_o (by omega), uz_o (by omega)]
  exact e_h2.trans e_h1
