/-! ===== readers on both sides ===== -/
section RDS
variable {M M1 : zM} {J : zJ} {x y : Int}
theorem ls_k (h : LSy M J) (fr : ∀ a : Nat, 31 ≤ a → M1 a = M a) (f : Int) : f < 0 ∨ 12 ≤ f ∨ (M 12 f = -1 ∧ M1 43 f = 0) ∨ (¬ M 12 f = -1 ∧ ¬ M1 43 f = 0) := hs_k h.2.2.2.2.2 (fr 43 (by decide)) f
theorem ls_d (h : LSy M J) {f : Int} (f0 : 0 ≤ f) (f1 : f < 12) (q : ¬ M 12 f = -1) : den M (M 12 f) = phi J f := (h.2.2.2.2.2 f f0 f1).2.resolve_left q
theorem ls_n (h : LSy M J) {f : Int} (f0 : 0 ≤ f) (f1 : f < 12) (q : ¬ M 12 f = -1) : ∃ S : Int → Prop, pst M S ∧ ∀ g : Int, 0 ≤ g → g < 12 → ¬ M 12 g = -1 → okN S (M 12 g) := by
  obtain ⟨⟨S, hS, hR⟩, -⟩ := h.2.1
  exact ⟨S, hS.1, fun g g0 g1 n => (hR _ (Or.inl ⟨g, ⟨g0, g1⟩, rfl⟩)).resolve_left n⟩
theorem sim_sameq {f g : Int} (h : LSy M J) (fr : ∀ a : Nat, 31 ≤ a → M1 a = M a) (hc : ((f < 0 ∨ 12 ≤ f ∨ M 12 f = -1 ∨ g < 0 ∨ 12 ≤ g ∨ M 12 g = -1) ∧ x = -1) ∨ (¬ (f < 0 ∨ 12 ≤ f ∨ M 12 f = -1 ∨ g < 0 ∨ 12 ≤ g ∨ M 12 g = -1) ∧ ((M 12 f = M 12 g ∧ x = 1) ∨ (¬ M 12 f = M 12 g ∧ x = 0)))) (hq : ((f < 0 ∨ 12 ≤ f ∨ M1 43 f = 0 ∨ g < 0 ∨ 12 ≤ g ∨ M1 43 g = 0) ∧ y = -1) ∨ (¬ (f < 0 ∨ 12 ≤ f ∨ M1 43 f = 0 ∨ g < 0 ∨ 12 ≤ g ∨ M1 43 g = 0) ∧ smQ (bitF J f) (bitF J g) 4 y)) : x = y := by
  have kf := ls_k h fr f
  have kg := ls_k h fr g
  rcases hc with ⟨a, b⟩ | ⟨a, b⟩
  · rcases hq with ⟨a', b'⟩ | ⟨a', b'⟩
    · exact b.trans b'.symm
    · exfalso; omega
  · rcases hq with ⟨a', b'⟩ | ⟨a', b'⟩
    · exfalso; omega
    · have e43 : M1 43 = M 43 := fr 43 (by decide)
      have df := ls_d h (f := f) (by omega) (by omega) (by omega)
      have nf : ¬ M 43 f = 0 := by rw [← e43]; omega
      have dg := ls_d h (f := g) (by omega) (by omega) (by omega)
      have ng : ¬ M 43 g = 0 := by rw [← e43]; omega
      obtain ⟨S, hS, hN⟩ := ls_n h (f := f) (by omega) (by omega) (by omega)
      rcases b with ⟨e, ex⟩ | ⟨ne, ex⟩
      · rcases b' with ⟨ey, -⟩ | ⟨ey, j, jb, q⟩
        · exact ex.trans ey.symm
        · have ep : phi J f = phi J g := by rw [← df, ← dg, e]
          refine absurd (btF_inj (fun p p0 p1 => ?_) j jb.1 jb.2) q
          obtain ⟨r, er⟩ := pd_onto 8 p p0 (by have := pw2_v; omega)
          have z := congrFun ep r
          have z2 : btF (bitF J f) (pos r) = btF (bitF J g) (pos r) := z
          have er' : pos r = p := er
          rw [er'] at z2
          exact z2
      · rcases b' with ⟨ey, q⟩ | ⟨ey, -⟩
        · refine absurd (den_inj hS (hN f (by omega) (by omega) (by omega)) (hN g (by omega) (by omega) (by omega)) ?_) ne
          rw [df, dg]
          funext r
          have pr := pos_in r
          exact btF_congr q pr.1 pr.2
        · exact ex.trans ey.symm
end RDS
