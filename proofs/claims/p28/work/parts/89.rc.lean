/-! ===== readers on both sides ===== -/
section RDS
variable {M M1 : zM} {J : zJ} {x y : Int}
theorem ls_k (h : LSy M J) (fr : ∀ a : Nat, 31 ≤ a → M1 a = M a) (f : Int) : f < 0 ∨ 12 ≤ f ∨ (M 12 f = -1 ∧ M1 43 f = 0) ∨ (¬ M 12 f = -1 ∧ ¬ M1 43 f = 0) := hs_k h.2.2.2.2.2 (fr 43 (by decide)) f
theorem ls_d (h : LSy M J) {f : Int} (f0 : 0 ≤ f) (f1 : f < 12) (q : ¬ M 12 f = -1) : den M (M 12 f) = phi J f := (h.2.2.2.2.2 f f0 f1).2.resolve_left q
theorem ls_n (h : LSy M J) {f : Int} (f0 : 0 ≤ f) (f1 : f < 12) (q : ¬ M 12 f = -1) : ∃ S : Int → Prop, pst M S ∧ ∀ g : Int, 0 ≤ g → g < 12 → ¬ M 12 g = -1 → okN S (M 12 g) := by
  obtain ⟨⟨S, hS, hR⟩, -⟩ := h.2.1
  exact ⟨S, hS.1, fun g g0 g1 n => (hR _ (Or.inl ⟨g, ⟨g0, g1⟩, rfl⟩)).resolve_left n⟩
theorem sim_nodes {f : Int} (ok : zOK M) (h : LSy M J) (fr : ∀ a : Nat, 31 ≤ a → M1 a = M a) (hc : ((f < 0 ∨ 12 ≤ f ∨ M 12 f = -1) ∧ x = -1) ∨ (¬ (f < 0 ∨ 12 ≤ f ∨ M 12 f = -1) ∧ cnt (laid (den M (M 12 f))) x)) (hq : ((f < 0 ∨ 12 ≤ f ∨ M1 43 f = 0) ∧ y = -1) ∨ (¬ (f < 0 ∨ 12 ≤ f ∨ M1 43 f = 0) ∧ y = M1 45 f)) : x = y := by
  have kf := ls_k h fr f
  rcases hc with ⟨a, b⟩ | ⟨a, b⟩
  · rcases hq with ⟨a', b'⟩ | ⟨a', b'⟩
    · exact b.trans b'.symm
    · exfalso; omega
  · rcases hq with ⟨a', b'⟩ | ⟨a', b'⟩
    · exfalso; omega
    · have e43 : M1 43 = M 43 := fr 43 (by decide)
      have df := ls_d h (f := f) (by omega) (by omega) (by omega)
      have nf : ¬ M 43 f = 0 := by rw [← e43]; omega
      rw [df] at b
      rw [b', fr 45 (by decide)]
      exact cnt_uniq (fun _ => Iff.rfl) b (ref_nodes h.1.2.1.1 ok (by omega) (by omega) nf)
theorem sim_sameq {f g : Int} (h : LSy M J) (fr : ∀ a : Nat, 31 ≤ a → M1 a = M a) (hc : ((f < 0 ∨ 12 ≤ f ∨ M 12 f = -1 ∨ g < 0 ∨ 12 ≤ g ∨ M 12 g = -1) ∧ x = -1) ∨ (¬ (f < 0 ∨ 12 ≤ f ∨ M 12 f = -1 ∨ g < 0 ∨ 12 ≤ g ∨ M 12 g = -1) ∧ ((M 12 f = M 12 g ∧ x = 1) ∨ (¬ M 12 f = M 12 g ∧ x = 0)))) (hq : ((f < 0 ∨ 12 ≤ f ∨ M1 43 f = 0 ∨ g < 0 ∨ 12 ≤ g ∨ M1 43 g = 0) ∧ y = -1) ∨ (¬ (f < 0 ∨ 12 ≤ f ∨ M1 43 f = 0 ∨ g < 0 ∨ 12 ≤ g ∨ M1 43 g = 0) ∧ smQ (bitF J f) (bitF J g) 4 y)) : x = y := by
  have kf := ls_k h fr f
  have kg := ls_k h fr g
  rcases hc with ⟨a, b⟩ | ⟨a, b⟩
  · rcases hq with ⟨a', b'⟩ | ⟨a', b'⟩
    · exact b.trans b'.symm
    · exfalso; omega
  · rcases hq with ⟨a', b'⟩ | ⟨a', b'⟩
    · exfalso; omega
    · have e43 : M1 43 = M 43 := fr 43 (by decide)
      have df := ls_d h (f := f) (by omega) (by omega) (by omega)
      have nf : ¬ M 43 f = 0 := by rw [← e43]; omega
      have dg := ls_d h (f := g) (by omega) (by omega) (by omega)
      have ng : ¬ M 43 g = 0 := by rw [← e43]; omega
      obtain ⟨S, hS, hN⟩ := ls_n h (f := f) (by omega) (by omega) (by omega)
      rcases b with ⟨e, ex⟩ | ⟨ne, ex⟩
      · rcases b' with ⟨ey, -⟩ | ⟨ey, j, jb, q⟩
        · exact ex.trans ey.symm
        · have ep : phi J f = phi J g := by rw [← df, ← dg, e]
          refine absurd (btF_inj (fun p p0 p1 => ?_) j jb.1 jb.2) q
          obtain ⟨r, er⟩ := pd_onto 8 p p0 (by have := pw2_v; omega)
          have z := congrFun ep r
          have z2 : btF (bitF J f) (pos r) = btF (bitF J g) (pos r) := z
          have er' : pos r = p := er
          rw [er'] at z2
          exact z2
      · rcases b' with ⟨ey, q⟩ | ⟨ey, -⟩
        · refine absurd (den_inj hS (hN f (by omega) (by omega) (by omega)) (hN g (by omega) (by omega) (by omega)) ?_) ne
          rw [df, dg]
          funext r
          have pr := pos_in r
          exact btF_congr q pr.1 pr.2
        · exact ex.trans ey.symm
theorem sim_value {f v : Int} (h : LSy M J) (fr : ∀ a : Nat, 31 ≤ a → M1 a = M a) (hc : ((f < 0 ∨ 12 ≤ f ∨ M 12 f = -1) ∧ x = -1) ∨ (¬ (f < 0 ∨ 12 ≤ f ∨ M 12 f = -1) ∧ (v < 0 ∨ 256 ≤ v) ∧ x = -2) ∨ (¬ (f < 0 ∨ 12 ≤ f ∨ M 12 f = -1) ∧ 0 ≤ v ∧ v < 256 ∧ x = vF (den M (M 12 f)) (M 3) v)) (hq : ((f < 0 ∨ 12 ≤ f ∨ M1 43 f = 0) ∧ y = -1) ∨ (¬ (f < 0 ∨ 12 ≤ f ∨ M1 43 f = 0) ∧ (v < 0 ∨ 256 ≤ v) ∧ y = -2) ∨ (¬ (f < 0 ∨ 12 ≤ f ∨ M1 43 f = 0) ∧ 0 ≤ v ∧ v < 256 ∧ y = vF (phi J f) (M1 38) v)) : x = y := by
  have kf := ls_k h fr f
  rcases hc with ⟨a, b⟩ | ⟨a, a2, b⟩ | ⟨a, a2, a3, b⟩
  · rcases hq with ⟨a', b'⟩ | ⟨a', -⟩ | ⟨a', -⟩
    · exact b.trans b'.symm
    all_goals (exfalso; omega)
  · rcases hq with ⟨a', -⟩ | ⟨a', a2', b'⟩ | ⟨a', a2', a3', -⟩
    · exfalso; omega
    · exact b.trans b'.symm
    · exfalso; omega
  · rcases hq with ⟨a', -⟩ | ⟨a', a2', -⟩ | ⟨a', a2', a3', b'⟩
    · exfalso; omega
    · exfalso; omega
    · have e43 : M1 43 = M 43 := fr 43 (by decide)
      have df := ls_d h (f := f) (by omega) (by omega) (by omega)
      have nf : ¬ M 43 f = 0 := by rw [← e43]; omega
      rw [b, b', df, fr 38 (by decide)]
      unfold vF
      rw [aR_cg (o := M 3) (o' := M 38) (fun k k0 k1 => (h.2.2.2.1.1 k k0 k1).1.symm)]
theorem sim_count {f : Int} (h : LSy M J) (fr : ∀ a : Nat, 31 ≤ a → M1 a = M a) (hc : ((f < 0 ∨ 12 ≤ f ∨ M 12 f = -1) ∧ x = -1) ∨ (¬ (f < 0 ∨ 12 ≤ f ∨ M 12 f = -1) ∧ x = hr (vF (den M (M 12 f)) (M 3)) 256)) (hq : ((f < 0 ∨ 12 ≤ f ∨ M1 43 f = 0) ∧ y = -1) ∨ (¬ (f < 0 ∨ 12 ≤ f ∨ M1 43 f = 0) ∧ y = hr (btF (bitF J f)) 256)) : x = y := by
  have kf := ls_k h fr f
  rcases hc with ⟨a, b⟩ | ⟨a, b⟩
  · rcases hq with ⟨a', b'⟩ | ⟨a', b'⟩
    · exact b.trans b'.symm
    · exfalso; omega
  · rcases hq with ⟨a', b'⟩ | ⟨a', b'⟩
    · exfalso; omega
    · have e43 : M1 43 = M 43 := fr 43 (by decide)
      have df := ls_d h (f := f) (by omega) (by omega) (by omega)
      have nf : ¬ M 43 f = 0 := by rw [← e43]; omega
      rw [b, b', df]
      exact cnt_as h.2.2.2.1.2 (bitF J f)
theorem sim_top {f : Int} (h : LSy M J) (fr : ∀ a : Nat, 31 ≤ a → M1 a = M a) (hc : ((f < 0 ∨ 12 ≤ f ∨ M 12 f = -1) ∧ x = -1) ∨ (¬ (f < 0 ∨ 12 ≤ f ∨ M 12 f = -1) ∧ ((M 6 (M 12 f) < 8 ∧ x = M 3 (M 6 (M 12 f))) ∨ (8 ≤ M 6 (M 12 f) ∧ x = -9)))) (hq : ((f < 0 ∨ 12 ≤ f ∨ M1 43 f = 0) ∧ y = -1) ∨ (¬ (f < 0 ∨ 12 ≤ f ∨ M1 43 f = 0) ∧ tpQ (phi J f) (M1 38) y)) : x = y := by
  have kf := ls_k h fr f
  rcases hc with ⟨a, b⟩ | ⟨a, b⟩
  · rcases hq with ⟨a', b'⟩ | ⟨a', b'⟩
    · exact b.trans b'.symm
    · exfalso; omega
  · rcases hq with ⟨a', b'⟩ | ⟨a', b'⟩
    · exfalso; omega
    · have e43 : M1 43 = M 43 := fr 43 (by decide)
      have df := ls_d h (f := f) (by omega) (by omega) (by omega)
      have nf : ¬ M 43 f = 0 := by rw [← e43]; omega
      obtain ⟨S, hS, hN⟩ := ls_n h (f := f) (by omega) (by omega) (by omega)
      have okn := hN f (by omega) (by omega) (by omega)
      have pl := pst_pl hS okn
      rw [← df, fr 38 (by decide)] at b'
      have lt : ∀ j : Int, 0 ≤ j → j < 8 → hgF (den M (M 12 f)) j → M 6 (M 12 f) ≤ j := fun j j0 j1 q => by
        obtain ⟨s, hs⟩ := (hg_laid j0 j1).mp q
        exact laid_pl hS okn hs
      rcases b with ⟨c, e⟩ | ⟨c, e⟩
      · have sn : S (M 12 f) := by
          rcases okn with w | w | w
          · rw [w, hS.1.1] at c; omega
          · rw [w, hS.1.2] at c; omega
          · exact w
        have hg : hgF (den M (M 12 f)) (M 6 (M 12 f)) := (hg_laid pl.1 c).mpr ⟨_, laid_self hS sn⟩
        rcases b' with ⟨k, kb, k1, k2, k3⟩ | ⟨k1, -⟩
        · have l1 := lt k kb.1 kb.2 k1
          have ek : k = M 6 (M 12 f) := by
            by_cases w : M 6 (M 12 f) < k
            · exact absurd hg (k2 _ pl.1 w)
            · omega
          rw [e, k3, ek]
          exact (h.2.2.2.1.1 _ pl.1 c).1
        · exact absurd hg (k1 _ pl.1 c)
      · rcases b' with ⟨k, kb, k1, -⟩ | ⟨-, k2⟩
        · have l1 := lt k kb.1 kb.2 k1
          omega
        · exact e.trans k2.symm
theorem sim_support {f : Int} (h : LSy M J) (fr : ∀ a : Nat, 31 ≤ a → M1 a = M a) (hc : ((f < 0 ∨ 12 ≤ f ∨ M 12 f = -1) ∧ x = -1) ∨ (¬ (f < 0 ∨ 12 ≤ f ∨ M 12 f = -1) ∧ x = spF (den M (M 12 f)) (M 3) 8)) (hq : ((f < 0 ∨ 12 ≤ f ∨ M1 43 f = 0) ∧ y = -1) ∨ (¬ (f < 0 ∨ 12 ≤ f ∨ M1 43 f = 0) ∧ y = spF (phi J f) (M1 38) 8)) : x = y := by
  have kf := ls_k h fr f
  rcases hc with ⟨a, b⟩ | ⟨a, b⟩
  · rcases hq with ⟨a', b'⟩ | ⟨a', b'⟩
    · exact b.trans b'.symm
    · exfalso; omega
  · rcases hq with ⟨a', b'⟩ | ⟨a', b'⟩
    · exfalso; omega
    · have e43 : M1 43 = M 43 := fr 43 (by decide)
      have df := ls_d h (f := f) (by omega) (by omega) (by omega)
      have nf : ¬ M 43 f = 0 := by rw [← e43]; omega
      rw [b, b', df, fr 38 (by decide)]
      exact (spF_cg (fun j j0 j1 => (h.2.2.2.1.1 j j0 (by omega)).1.symm)).symm
theorem sim_level {f v : Int} (ok : zOK M) (h : LSy M J) (fr : ∀ a : Nat, 31 ≤ a → M1 a = M a) (hc : ((f < 0 ∨ 12 ≤ f ∨ M 12 f = -1) ∧ x = -1) ∨ (¬ (f < 0 ∨ 12 ≤ f ∨ M 12 f = -1) ∧ (v < 0 ∨ 8 ≤ v) ∧ x = -2) ∨ (¬ (f < 0 ∨ 12 ≤ f ∨ M 12 f = -1) ∧ 0 ≤ v ∧ v < 8 ∧ cnt (fun y => laid (den M (M 12 f)) y ∧ y.1 = M 4 v) x)) (hq : ((f < 0 ∨ 12 ≤ f ∨ M1 43 f = 0) ∧ y = -1) ∨ (¬ (f < 0 ∨ 12 ≤ f ∨ M1 43 f = 0) ∧ (v < 0 ∨ 8 ≤ v) ∧ y = -2) ∨ (¬ (f < 0 ∨ 12 ≤ f ∨ M1 43 f = 0) ∧ 0 ≤ v ∧ v < 8 ∧ y = hr (lvF M1 f (M1 39 v)) (M1 45 f).toNat)) : x = y := by
  have kf := ls_k h fr f
  rcases hc with ⟨a, b⟩ | ⟨a, a2, b⟩ | ⟨a, a2, a3, b⟩
  · rcases hq with ⟨a', b'⟩ | ⟨a', -⟩ | ⟨a', -⟩
    · exact b.trans b'.symm
    all_goals (exfalso; omega)
  · rcases hq with ⟨a', -⟩ | ⟨a', a2', b'⟩ | ⟨a', a2', a3', -⟩
    · exfalso; omega
    · exact b.trans b'.symm
    · exfalso; omega
  · rcases hq with ⟨a', -⟩ | ⟨a', a2', -⟩ | ⟨a', a2', a3', b'⟩
    · exfalso; omega
    · exfalso; omega
    · have e43 : M1 43 = M 43 := fr 43 (by decide)
      have df := ls_d h (f := f) (by omega) (by omega) (by omega)
      have nf : ¬ M 43 f = 0 := by rw [← e43]; omega
      have el : lvF M1 f (M1 39 v) = lvF M f (M 4 v) := by
        funext k
        unfold lvF
        rw [fr 47 (by decide), fr 46 (by decide), fr 39 (by decide), (h.2.2.2.1.1 v a2 a3).2]
      rw [df] at b
      rw [b', el, fr 45 (by decide)]
      exact cnt_uniq (fun _ => Iff.rfl) b (ref_lv h.1.2.1.1 ok (by omega) (by omega) nf)
theorem sim_common {f g : Int} (ok : zOK M) (h : LSy M J) (fr : ∀ a : Nat, 31 ≤ a → M1 a = M a) (hc : ((f < 0 ∨ 12 ≤ f ∨ M 12 f = -1 ∨ g < 0 ∨ 12 ≤ g ∨ M 12 g = -1) ∧ x = -1) ∨ (¬ (f < 0 ∨ 12 ≤ f ∨ M 12 f = -1 ∨ g < 0 ∨ 12 ≤ g ∨ M 12 g = -1) ∧ cnt (fun y => laid (den M (M 12 f)) y ∧ laid (den M (M 12 g)) y) x)) (hq : ((f < 0 ∨ 12 ≤ f ∨ M1 43 f = 0 ∨ g < 0 ∨ 12 ≤ g ∨ M1 43 g = 0) ∧ y = -1) ∨ (¬ (f < 0 ∨ 12 ≤ f ∨ M1 43 f = 0 ∨ g < 0 ∨ 12 ≤ g ∨ M1 43 g = 0) ∧ y = sm_ (fun i => hr (cmE M1 f g i) (M1 45 g).toNat) (M1 45 f).toNat)) : x = y := by
  have kf := ls_k h fr f
  have kg := ls_k h fr g
  rcases hc with ⟨a, b⟩ | ⟨a, b⟩
  · rcases hq with ⟨a', b'⟩ | ⟨a', b'⟩
    · exact b.trans b'.symm
    · exfalso; omega
  · rcases hq with ⟨a', b'⟩ | ⟨a', b'⟩
    · exfalso; omega
    · have e43 : M1 43 = M 43 := fr 43 (by decide)
      have df := ls_d h (f := f) (by omega) (by omega) (by omega)
      have nf : ¬ M 43 f = 0 := by rw [← e43]; omega
      have dg := ls_d h (f := g) (by omega) (by omega) (by omega)
      have ng : ¬ M 43 g = 0 := by rw [← e43]; omega
      have ec : cmE M1 f g = cmE M f g := by
        funext i j
        unfold cmE
        rw [fr 46 (by decide)]
      rw [df, dg] at b
      rw [b', ec, fr 45 (by decide)]
      exact cnt_uniq (fun _ => Iff.rfl) b (ref_cm h.1.2.1.1 ok (by omega) (by omega) nf (by omega) (by omega) ng)
end RDS
