/-! ===== a call on both sides ===== -/
def ctx (M M1 M2 : zM) (J : zJ) : Prop := LSy M J ∧ (∀ a : Nat, 31 ≤ a → M1 a = M a) ∧ ∀ a : Nat, a < 31 → M2 a = M1 a
def simS (M2 : zM) (J2 : zJ) : Prop := CB M2 ∧ M2 5 8 = M2 31 8 ∧ hSy M2 J2
section OPS
variable {M M1 M2 : zM} {J J2 : zJ} {x y : Int}
theorem LS_mk (h : LSy M J) (li : LI M2 J2) (j54 : J2 54 = J 54) (o : oSy M2) (s : simS M2 J2) : LSy M2 J2 := ⟨li, s.1, fun q a b => by rw [j54]; exact h.2.2.1 q a b, o, s.2.1, s.2.2⟩
theorem oSy_fr (h : oSy M) (e3 : M2 3 = M 3) (e4 : M2 4 = M 4) (e38 : M2 38 = M 38) (e39 : M2 39 = M 39) : oSy M2 := by
  unfold oSy
  rw [e3, e4, e38, e39]
  exact h
theorem LS_s (h : LSy M J) : simS M J := ⟨h.2.1, h.2.2.2.2.1, h.2.2.2.2.2⟩
theorem hs_k (hs : hSy M J) (e43 : M1 43 = M 43) (f : Int) : f < 0 ∨ 12 ≤ f ∨ (M 12 f = -1 ∧ M1 43 f = 0) ∨ (¬ M 12 f = -1 ∧ ¬ M1 43 f = 0) := by
  by_cases a : f < 0
  · exact Or.inl a
  · by_cases b : 12 ≤ f
    · exact Or.inr (Or.inl b)
    · have q := (hs f (by omega) (by omega)).1
      rw [e43]
      by_cases c : M 12 f = -1
      · exact Or.inr (Or.inr (Or.inl ⟨c, q.mp c⟩))
      · exact Or.inr (Or.inr (Or.inr ⟨c, fun t => c (q.mpr t)⟩))
theorem cx_k (c : ctx M M1 M2 J) (f : Int) : f < 0 ∨ 12 ≤ f ∨ (M 12 f = -1 ∧ M1 43 f = 0) ∨ (¬ M 12 f = -1 ∧ ¬ M1 43 f = 0) := hs_k c.1.2.2.2.2.2 (c.2.1 43 (by decide)) f
theorem cx_d (c : ctx M M1 M2 J) {f : Int} (f0 : 0 ≤ f) (f1 : f < 12) (h : ¬ M 12 f = -1) : den M (M 12 f) = phi J f := (c.1.2.2.2.2.2 f f0 f1).2.resolve_left h
theorem cx_o (c : ctx M M1 M2 J) {v : Int} (v0 : 0 ≤ v) (v1 : v < 8) : M1 39 v = M 4 v := by
  rw [c.2.1 39 (by decide)]
  exact (c.1.2.2.2.1.1 v v0 v1).2.symm
theorem sim_same (c : ctx M M1 M2 J) (e1 : M1 = M) (e2 : M2 = M1) (e3 : J2 = J) (e : x = y) : x = y ∧ simS M2 J2 := by
  rw [e2, e1, e3]
  exact ⟨e, LS_s c.1⟩
theorem sim_fin {h : Int} {ok ok' : Prop} {F : FN} (c : ctx M M1 M2 J) (hq : finQ M h ok F x M1) (hr : finR M1 J h ok' F y M2 J2) (e : ok ↔ ok') : x = y ∧ simS M2 J2 := fin_sim c.1.2.1 c.1.1.2.1.2.1 c.1.2.2.2.2.2 c.1.2.2.2.2.1 hq c.2.1 hr c.2.2 e
theorem sim_ok {E : Lb → Prop} {F : FN} (c : ctx M M1 M2 J) : okP M E F ↔ okR M1 J E F := ls_ok c.1.2.1 c.1.1.2.1.2.1 c.1.2.2.2.2.2 c.1.2.2.2.2.1 (c.2.1 43 (by decide)) (c.2.1 31 (by decide))
theorem sim_variable {h v : Int} (c : ctx M M1 M2 J) (hc : ((h < 0 ∨ 12 ≤ h) ∧ x = -1 ∧ M1 = M) ∨ (0 ≤ h ∧ h < 12 ∧ (v < 0 ∨ 8 ≤ v) ∧ x = -2 ∧ M1 = M) ∨ (0 ≤ h ∧ h < 12 ∧ 0 ≤ v ∧ v < 8 ∧ finQ M h (okP M E0 (fun r => bz (r (M 4 v)))) (fun r => bz (r (M 4 v))) x M1)) (hr : ((h < 0 ∨ 12 ≤ h) ∧ y = -1 ∧ M2 = M1 ∧ J2 = J) ∨ (0 ≤ h ∧ h < 12 ∧ (v < 0 ∨ 8 ≤ v) ∧ y = -2 ∧ M2 = M1 ∧ J2 = J) ∨ (0 ≤ h ∧ h < 12 ∧ 0 ≤ v ∧ v < 8 ∧ finR M1 J h (okR M1 J E0 (fun r => bz (r (M1 39 v)))) (fun r => bz (r (M1 39 v))) y M2 J2)) : x = y ∧ simS M2 J2 := by
  rcases hc with ⟨a, b, e⟩ | ⟨a1, a2, a3, b, e⟩ | ⟨a1, a2, a3, a4, q⟩
  · rcases hr with ⟨a', b', e', f'⟩ | ⟨a1', a2', a3', -⟩ | ⟨a1', a2', a3', a4', -⟩
    · exact sim_same c e e' f' (b.trans b'.symm)
    · exfalso; omega
    · exfalso; omega
  · rcases hr with ⟨a', -⟩ | ⟨a1', a2', a3', b', e', f'⟩ | ⟨a1', a2', a3', a4', -⟩
    · exfalso; omega
    · exact sim_same c e e' f' (b.trans b'.symm)
    · exfalso; omega
  · rcases hr with ⟨a', -⟩ | ⟨a1', a2', a3', -⟩ | ⟨a1', a2', a3', a4', q'⟩
    · exfalso; omega
    · exfalso; omega
    · rw [cx_o c a3 a4] at q'
      exact sim_fin c q q' (sim_ok c)
theorem sim_combine {h t f g : Int} (c : ctx M M1 M2 J) (hc : ((h < 0 ∨ 12 ≤ h) ∧ x = -1 ∧ M1 = M) ∨ (0 ≤ h ∧ h < 12 ∧ (t ≤ 0 ∨ 9 < t) ∧ x = -2 ∧ M1 = M) ∨ (0 ≤ h ∧ h < 12 ∧ 0 < t ∧ t ≤ 9 ∧ ((3 ≤ t ∧ (f < 0 ∨ 12 ≤ f ∨ M 12 f = -1)) ∨ (3 < t ∧ (g < 0 ∨ 12 ≤ g ∨ M 12 g = -1))) ∧ x = -1 ∧ M1 = M) ∨ (0 ≤ h ∧ h < 12 ∧ 0 < t ∧ t ≤ 9 ∧ ¬ ((3 ≤ t ∧ (f < 0 ∨ 12 ≤ f ∨ M 12 f = -1)) ∨ (3 < t ∧ (g < 0 ∨ 12 ≤ g ∨ M 12 g = -1))) ∧ finQ M h (okP M E0 (fun r => tbl (tabF t) (den M (if t < 3 then 0 else M 12 f) r) (den M (if t ≤ 3 then 0 else M 12 g) r) (den M 0 r))) (fun r => tbl (tabF t) (den M (if t < 3 then 0 else M 12 f) r) (den M (if t ≤ 3 then 0 else M 12 g) r) (den M 0 r)) x M1)) (hr : ((h < 0 ∨ 12 ≤ h) ∧ y = -1 ∧ M2 = M1 ∧ J2 = J) ∨ (0 ≤ h ∧ h < 12 ∧ (t ≤ 0 ∨ 9 < t) ∧ y = -2 ∧ M2 = M1 ∧ J2 = J) ∨ (0 ≤ h ∧ h < 12 ∧ 0 < t ∧ t ≤ 9 ∧ ((3 ≤ t ∧ (f < 0 ∨ 12 ≤ f ∨ M1 43 f = 0)) ∨ (3 < t ∧ (g < 0 ∨ 12 ≤ g ∨ M1 43 g = 0))) ∧ y = -1 ∧ M2 = M1 ∧ J2 = J) ∨ (0 ≤ h ∧ h < 12 ∧ 0 < t ∧ t ≤ 9 ∧ ¬ ((3 ≤ t ∧ (f < 0 ∨ 12 ≤ f ∨ M1 43 f = 0)) ∨ (3 < t ∧ (g < 0 ∨ 12 ≤ g ∨ M1 43 g = 0))) ∧ finR M1 J h (okR M1 J E0 (fun r => tbl (tabF t) (if t < 3 then 0 else phi J f r) (if t ≤ 3 then 0 else phi J g r) 0)) (fun r => tbl (tabF t) (if t < 3 then 0 else phi J f r) (if t ≤ 3 then 0 else phi J g r) 0) y M2 J2)) : x = y ∧ simS M2 J2 := by
  have kf := cx_k c f
  have kg := cx_k c g
  rcases hc with ⟨a, b, e⟩ | ⟨a1, a2, a3, b, e⟩ | ⟨a1, a2, a3, a4, a5, b, e⟩ | ⟨a1, a2, a3, a4, a5, q⟩
  · rcases hr with ⟨a', b', e', f'⟩ | ⟨a1', a2', -⟩ | ⟨a1', a2', -⟩ | ⟨a1', a2', -⟩
    · exact sim_same c e e' f' (b.trans b'.symm)
    all_goals (exfalso; omega)
  · rcases hr with ⟨a', -⟩ | ⟨a1', a2', a3', b', e', f'⟩ | ⟨a1', a2', a3', a4', -⟩ | ⟨a1', a2', a3', a4', -⟩
    · exfalso; omega
    · exact sim_same c e e' f' (b.trans b'.symm)
    all_goals (exfalso; omega)
  · rcases hr with ⟨a', -⟩ | ⟨a1', a2', a3', -⟩ | ⟨a1', a2', a3', a4', a5', b', e', f'⟩ | ⟨a1', a2', a3', a4', a5', -⟩
    · exfalso; omega
    · exfalso; omega
    · exact sim_same c e e' f' (b.trans b'.symm)
    · exfalso; omega
  · rcases hr with ⟨a', -⟩ | ⟨a1', a2', a3', -⟩ | ⟨a1', a2', a3', a4', a5', -⟩ | ⟨a1', a2', a3', a4', a5', q'⟩
    · exfalso; omega
    · exfalso; omega
    · exfalso; omega
    · have e : (fun r => tbl (tabF t) (den M (if t < 3 then 0 else M 12 f) r) (den M (if t ≤ 3 then 0 else M 12 g) r) (den M 0 r)) = (fun r => tbl (tabF t) (if t < 3 then 0 else phi J f r) (if t ≤ 3 then 0 else phi J g r) 0) := by
        funext r
        by_cases c1 : t < 3
        · rw [if_pos c1, if_pos (show t ≤ 3 by omega), if_pos c1, if_pos (show t ≤ 3 by omega), den_0]
        · have hf := cx_d c (f := f) (by omega) (by omega) (by omega)
          by_cases c2 : t ≤ 3
          · rw [if_neg c1, if_pos c2, if_neg c1, if_pos c2, den_0, hf]
          · have hg := cx_d c (f := g) (by omega) (by omega) (by omega)
            rw [if_neg c1, if_neg c2, if_neg c1, if_neg c2, den_0, hf, hg]
      rw [e] at q
      exact sim_fin c q q' (sim_ok c)
theorem sim_choose {h f g k : Int} (c : ctx M M1 M2 J) (hc : ((h < 0 ∨ 12 ≤ h ∨ f < 0 ∨ 12 ≤ f ∨ M 12 f = -1 ∨ g < 0 ∨ 12 ≤ g ∨ M 12 g = -1 ∨ k < 0 ∨ 12 ≤ k ∨ M 12 k = -1) ∧ x = -1 ∧ M1 = M) ∨ (¬ (h < 0 ∨ 12 ≤ h ∨ f < 0 ∨ 12 ≤ f ∨ M 12 f = -1 ∨ g < 0 ∨ 12 ≤ g ∨ M 12 g = -1 ∨ k < 0 ∨ 12 ≤ k ∨ M 12 k = -1) ∧ finQ M h (okP M E0 (fun r => tbl (tabF 10) (den M (M 12 f) r) (den M (M 12 g) r) (den M (M 12 k) r))) (fun r => tbl (tabF 10) (den M (M 12 f) r) (den M (M 12 g) r) (den M (M 12 k) r)) x M1)) (hr : ((h < 0 ∨ 12 ≤ h ∨ f < 0 ∨ 12 ≤ f ∨ M1 43 f = 0 ∨ g < 0 ∨ 12 ≤ g ∨ M1 43 g = 0 ∨ k < 0 ∨ 12 ≤ k ∨ M1 43 k = 0) ∧ y = -1 ∧ M2 = M1 ∧ J2 = J) ∨ (¬ (h < 0 ∨ 12 ≤ h ∨ f < 0 ∨ 12 ≤ f ∨ M1 43 f = 0 ∨ g < 0 ∨ 12 ≤ g ∨ M1 43 g = 0 ∨ k < 0 ∨ 12 ≤ k ∨ M1 43 k = 0) ∧ finR M1 J h (okR M1 J E0 (fun r => tbl (tabF 10) (phi J f r) (phi J g r) (phi J k r))) (fun r => tbl (tabF 10) (phi J f r) (phi J g r) (phi J k r)) y M2 J2)) : x = y ∧ simS M2 J2 := by
  have kf := cx_k c f
  have kg := cx_k c g
  have kk := cx_k c k
  rcases hc with ⟨a, b, e⟩ | ⟨a, q⟩
  · rcases hr with ⟨a', b', e', f'⟩ | ⟨a', -⟩
    · exact sim_same c e e' f' (b.trans b'.symm)
    · exfalso; omega
  · rcases hr with ⟨a', -⟩ | ⟨a', q'⟩
    · exfalso; omega
    · rw [cx_d c (f := f) (by omega) (by omega) (by omega), cx_d c (f := g) (by omega) (by omega) (by omega), cx_d c (f := k) (by omega) (by omega) (by omega)] at q
      exact sim_fin c q q' (sim_ok c)
theorem sim_restrict {h f v z : Int} (c : ctx M M1 M2 J) (hc : ((h < 0 ∨ 12 ≤ h ∨ f < 0 ∨ 12 ≤ f ∨ M 12 f = -1) ∧ x = -1 ∧ M1 = M) ∨ (¬ (h < 0 ∨ 12 ≤ h ∨ f < 0 ∨ 12 ≤ f ∨ M 12 f = -1) ∧ (v < 0 ∨ 8 ≤ v) ∧ x = -2 ∧ M1 = M) ∨ (¬ (h < 0 ∨ 12 ≤ h ∨ f < 0 ∨ 12 ≤ f ∨ M 12 f = -1) ∧ 0 ≤ v ∧ v < 8 ∧ finQ M h (okP M E0 (fun r => den M (M 12 f) (updI r (M 4 v) (if z = 0 then 0 else 1)))) (fun r => den M (M 12 f) (updI r (M 4 v) (if z = 0 then 0 else 1))) x M1)) (hr : ((h < 0 ∨ 12 ≤ h ∨ f < 0 ∨ 12 ≤ f ∨ M1 43 f = 0) ∧ y = -1 ∧ M2 = M1 ∧ J2 = J) ∨ (¬ (h < 0 ∨ 12 ≤ h ∨ f < 0 ∨ 12 ≤ f ∨ M1 43 f = 0) ∧ (v < 0 ∨ 8 ≤ v) ∧ y = -2 ∧ M2 = M1 ∧ J2 = J) ∨ (¬ (h < 0 ∨ 12 ≤ h ∨ f < 0 ∨ 12 ≤ f ∨ M1 43 f = 0) ∧ 0 ≤ v ∧ v < 8 ∧ finR M1 J h (okR M1 J E0 (fun r => phi J f (updI r (M1 39 v) (if z = 0 then 0 else 1)))) (fun r => phi J f (updI r (M1 39 v) (if z = 0 then 0 else 1))) y M2 J2)) : x = y ∧ simS M2 J2 := by
  have kf := cx_k c f
  rcases hc with ⟨a, b, e⟩ | ⟨a, a3, b, e⟩ | ⟨a, a3, a4, q⟩
  · rcases hr with ⟨a', b', e', f'⟩ | ⟨a', -⟩ | ⟨a', -⟩
    · exact sim_same c e e' f' (b.trans b'.symm)
    all_goals (exfalso; omega)
  · rcases hr with ⟨a', -⟩ | ⟨a', a3', b', e', f'⟩ | ⟨a', a3', a4', -⟩
    · exfalso; omega
    · exact sim_same c e e' f' (b.trans b'.symm)
    · exfalso; omega
  · rcases hr with ⟨a', -⟩ | ⟨a', a3', -⟩ | ⟨a', a3', a4', q'⟩
    · exfalso; omega
    · exfalso; omega
    · rw [cx_o c a3 a4] at q'
      rw [cx_d c (f := f) (by omega) (by omega) (by omega)] at q
      exact sim_fin c q q' (sim_ok c)
theorem sim_quantify {h f v z : Int} (c : ctx M M1 M2 J) (hc : ((h < 0 ∨ 12 ≤ h ∨ f < 0 ∨ 12 ≤ f ∨ M 12 f = -1) ∧ x = -1 ∧ M1 = M) ∨ (¬ (h < 0 ∨ 12 ≤ h ∨ f < 0 ∨ 12 ≤ f ∨ M 12 f = -1) ∧ (v < 0 ∨ 8 ≤ v) ∧ x = -2 ∧ M1 = M) ∨ (¬ (h < 0 ∨ 12 ≤ h ∨ f < 0 ∨ 12 ≤ f ∨ M 12 f = -1) ∧ 0 ≤ v ∧ v < 8 ∧ finQ M h (okP M E0 (fun r => den M (M 12 f) (updI r (M 4 v) (if (0 : Int) = 0 then 0 else 1))) ∧ okP M (E1 (fun r => den M (M 12 f) (updI r (M 4 v) (if (0 : Int) = 0 then 0 else 1)))) (fun r => den M (M 12 f) (updI r (M 4 v) (if (1 : Int) = 0 then 0 else 1))) ∧ okP M (E2 (fun r => den M (M 12 f) (updI r (M 4 v) (if (0 : Int) = 0 then 0 else 1))) (fun r => den M (M 12 f) (updI r (M 4 v) (if (1 : Int) = 0 then 0 else 1)))) (fun r => tbl (tabF (if z = 0 then 5 else 4)) ((fun r => den M (M 12 f) (updI r (M 4 v) (if (0 : Int) = 0 then 0 else 1))) r) ((fun r => den M (M 12 f) (updI r (M 4 v) (if (1 : Int) = 0 then 0 else 1))) r) 0)) (fun r => tbl (tabF (if z = 0 then 5 else 4)) ((fun r => den M (M 12 f) (updI r (M 4 v) (if (0 : Int) = 0 then 0 else 1))) r) ((fun r => den M (M 12 f) (updI r (M 4 v) (if (1 : Int) = 0 then 0 else 1))) r) 0) x M1)) (hr : ((h < 0 ∨ 12 ≤ h ∨ f < 0 ∨ 12 ≤ f ∨ M1 43 f = 0) ∧ y = -1 ∧ M2 = M1 ∧ J2 = J) ∨ (¬ (h < 0 ∨ 12 ≤ h ∨ f < 0 ∨ 12 ≤ f ∨ M1 43 f = 0) ∧ (v < 0 ∨ 8 ≤ v) ∧ y = -2 ∧ M2 = M1 ∧ J2 = J) ∨ (¬ (h < 0 ∨ 12 ≤ h ∨ f < 0 ∨ 12 ≤ f ∨ M1 43 f = 0) ∧ 0 ≤ v ∧ v < 8 ∧ finR M1 J h (okR M1 J E0 (fun r => phi J f (updI r (M1 39 v) (if (0 : Int) = 0 then 0 else 1))) ∧ okR M1 J (E1 (fun r => phi J f (updI r (M1 39 v) (if (0 : Int) = 0 then 0 else 1)))) (fun r => phi J f (updI r (M1 39 v) (if (1 : Int) = 0 then 0 else 1))) ∧ okR M1 J (E2 (fun r => phi J f (updI r (M1 39 v) (if (0 : Int) = 0 then 0 else 1))) (fun r => phi J f (updI r (M1 39 v) (if (1 : Int) = 0 then 0 else 1)))) (fun r => tbl (tabF (if z = 0 then 5 else 4)) ((fun r => phi J f (updI r (M1 39 v) (if (0 : Int) = 0 then 0 else 1))) r) ((fun r => phi J f (updI r (M1 39 v) (if (1 : Int) = 0 then 0 else 1))) r) 0)) (fun r => tbl (tabF (if z = 0 then 5 else 4)) ((fun r => phi J f (updI r (M1 39 v) (if (0 : Int) = 0 then 0 else 1))) r) ((fun r => phi J f (updI r (M1 39 v) (if (1 : Int) = 0 then 0 else 1))) r) 0) y M2 J2)) : x = y ∧ simS M2 J2 := by
  have kf := cx_k c f
  rcases hc with ⟨a, b, e⟩ | ⟨a, a3, b, e⟩ | ⟨a, a3, a4, q⟩
  · rcases hr with ⟨a', b', e', f'⟩ | ⟨a', -⟩ | ⟨a', -⟩
    · exact sim_same c e e' f' (b.trans b'.symm)
    all_goals (exfalso; omega)
  · rcases hr with ⟨a', -⟩ | ⟨a', a3', b', e', f'⟩ | ⟨a', a3', a4', -⟩
    · exfalso; omega
    · exact sim_same c e e' f' (b.trans b'.symm)
    · exfalso; omega
  · rcases hr with ⟨a', -⟩ | ⟨a', a3', -⟩ | ⟨a', a3', a4', q'⟩
    · exfalso; omega
    · exfalso; omega
    · rw [cx_o c a3 a4] at q'
      rw [cx_d c (f := f) (by omega) (by omega) (by omega)] at q
      exact sim_fin c q q' (and_congr (sim_ok c) (and_congr (sim_ok c) (sim_ok c)))
theorem sim_compose {h f v g : Int} (c : ctx M M1 M2 J) (hc : ((h < 0 ∨ 12 ≤ h ∨ f < 0 ∨ 12 ≤ f ∨ M 12 f = -1 ∨ g < 0 ∨ 12 ≤ g ∨ M 12 g = -1) ∧ x = -1 ∧ M1 = M) ∨ (¬ (h < 0 ∨ 12 ≤ h ∨ f < 0 ∨ 12 ≤ f ∨ M 12 f = -1 ∨ g < 0 ∨ 12 ≤ g ∨ M 12 g = -1) ∧ (v < 0 ∨ 8 ≤ v) ∧ x = -2 ∧ M1 = M) ∨ (¬ (h < 0 ∨ 12 ≤ h ∨ f < 0 ∨ 12 ≤ f ∨ M 12 f = -1 ∨ g < 0 ∨ 12 ≤ g ∨ M 12 g = -1) ∧ 0 ≤ v ∧ v < 8 ∧ finQ M h (okP M E0 (fun r => den M (M 12 f) (updI r (M 4 v) (if (0 : Int) = 0 then 0 else 1))) ∧ okP M (E1 (fun r => den M (M 12 f) (updI r (M 4 v) (if (0 : Int) = 0 then 0 else 1)))) (fun r => den M (M 12 f) (updI r (M 4 v) (if (1 : Int) = 0 then 0 else 1))) ∧ okP M (E2 (fun r => den M (M 12 f) (updI r (M 4 v) (if (0 : Int) = 0 then 0 else 1))) (fun r => den M (M 12 f) (updI r (M 4 v) (if (1 : Int) = 0 then 0 else 1)))) (fun r => tbl (tabF 10) (den M (M 12 g) r) ((fun r => den M (M 12 f) (updI r (M 4 v) (if (1 : Int) = 0 then 0 else 1))) r) ((fun r => den M (M 12 f) (updI r (M 4 v) (if (0 : Int) = 0 then 0 else 1))) r))) (fun r => tbl (tabF 10) (den M (M 12 g) r) ((fun r => den M (M 12 f) (updI r (M 4 v) (if (1 : Int) = 0 then 0 else 1))) r) ((fun r => den M (M 12 f) (updI r (M 4 v) (if (0 : Int) = 0 then 0 else 1))) r)) x M1)) (hr : ((h < 0 ∨ 12 ≤ h ∨ f < 0 ∨ 12 ≤ f ∨ M1 43 f = 0 ∨ g < 0 ∨ 12 ≤ g ∨ M1 43 g = 0) ∧ y = -1 ∧ M2 = M1 ∧ J2 = J) ∨ (¬ (h < 0 ∨ 12 ≤ h ∨ f < 0 ∨ 12 ≤ f ∨ M1 43 f = 0 ∨ g < 0 ∨ 12 ≤ g ∨ M1 43 g = 0) ∧ (v < 0 ∨ 8 ≤ v) ∧ y = -2 ∧ M2 = M1 ∧ J2 = J) ∨ (¬ (h < 0 ∨ 12 ≤ h ∨ f < 0 ∨ 12 ≤ f ∨ M1 43 f = 0 ∨ g < 0 ∨ 12 ≤ g ∨ M1 43 g = 0) ∧ 0 ≤ v ∧ v < 8 ∧ finR M1 J h (okR M1 J E0 (fun r => phi J f (updI r (M1 39 v) (if (0 : Int) = 0 then 0 else 1))) ∧ okR M1 J (E1 (fun r => phi J f (updI r (M1 39 v) (if (0 : Int) = 0 then 0 else 1)))) (fun r => phi J f (updI r (M1 39 v) (if (1 : Int) = 0 then 0 else 1))) ∧ okR M1 J (E2 (fun r => phi J f (updI r (M1 39 v) (if (0 : Int) = 0 then 0 else 1))) (fun r => phi J f (updI r (M1 39 v) (if (1 : Int) = 0 then 0 else 1)))) (fun r => tbl (tabF 10) (phi J g r) ((fun r => phi J f (updI r (M1 39 v) (if (1 : Int) = 0 then 0 else 1))) r) ((fun r => phi J f (updI r (M1 39 v) (if (0 : Int) = 0 then 0 else 1))) r))) (fun r => tbl (tabF 10) (phi J g r) ((fun r => phi J f (updI r (M1 39 v) (if (1 : Int) = 0 then 0 else 1))) r) ((fun r => phi J f (updI r (M1 39 v) (if (0 : Int) = 0 then 0 else 1))) r)) y M2 J2)) : x = y ∧ simS M2 J2 := by
  have kf := cx_k c f
  have kg := cx_k c g
  rcases hc with ⟨a, b, e⟩ | ⟨a, a3, b, e⟩ | ⟨a, a3, a4, q⟩
  · rcases hr with ⟨a', b', e', f'⟩ | ⟨a', -⟩ | ⟨a', -⟩
    · exact sim_same c e e' f' (b.trans b'.symm)
    all_goals (exfalso; omega)
  · rcases hr with ⟨a', -⟩ | ⟨a', a3', b', e', f'⟩ | ⟨a', a3', a4', -⟩
    · exfalso; omega
    · exact sim_same c e e' f' (b.trans b'.symm)
    · exfalso; omega
  · rcases hr with ⟨a', -⟩ | ⟨a', a3', -⟩ | ⟨a', a3', a4', q'⟩
    · exfalso; omega
    · exfalso; omega
    · rw [cx_o c a3 a4] at q'
      rw [cx_d c (f := f) (by omega) (by omega) (by omega), cx_d c (f := g) (by omega) (by omega) (by omega)] at q
      exact sim_fin c q q' (and_congr (sim_ok c) (and_congr (sim_ok c) (sim_ok c)))
theorem CB_lo (h : CB M1) (fr : ∀ a : Nat, a < 31 → M2 a = M1 a) : CB M2 := CB_cg (by rw [fr 0 (by decide)]) (fr 5 (by decide)) (fr 6 (by decide)) (fr 7 (by decide)) (fr 8 (by decide)) (fr 10 (by decide)) (fr 11 (by decide)) (fr 12 (by decide)) (fr 13 (by decide)) (fr 15 (by decide)) h
theorem den_lo (fr : ∀ a : Nat, a < 31 → M2 a = M1 a) : den M2 = den M1 := den_cg (fr 6 (by decide)) (fr 7 (by decide)) (fr 8 (by decide))
theorem sim_share {h f : Int} (c : ctx M M1 M2 J) (hc : ((h < 0 ∨ 12 ≤ h ∨ f < 0 ∨ 12 ≤ f ∨ M 12 f = -1) ∧ x = -1 ∧ M1 = M) ∨ (¬ (h < 0 ∨ 12 ≤ h ∨ f < 0 ∨ 12 ≤ f ∨ M 12 f = -1) ∧ x = 1 ∧ CB M1 ∧ M1 = uz M 12 h (M 12 f))) (hr : ((h < 0 ∨ 12 ≤ h ∨ f < 0 ∨ 12 ≤ f ∨ M1 43 f = 0) ∧ y = -1 ∧ M2 = M1 ∧ J2 = J) ∨ (¬ (h < 0 ∨ 12 ≤ h ∨ f < 0 ∨ 12 ≤ f ∨ M1 43 f = 0) ∧ y = 1 ∧ M2 31 8 = M1 31 8 ∧ (¬ M2 43 h = 0 ∧ phi J2 h = phi J f) ∧ ∀ j : Int, 0 ≤ j → j < 12 → j ≠ h → (M2 43 j = M1 43 j ∧ phi J2 j = phi J j))) : x = y ∧ simS M2 J2 := by
  have kf := cx_k c f
  rcases hc with ⟨a, b, e⟩ | ⟨a, b, hb, e⟩
  · rcases hr with ⟨a', b', e', f'⟩ | ⟨a', -⟩
    · exact sim_same c e e' f' (b.trans b'.symm)
    · exfalso; omega
  · rcases hr with ⟨a', -⟩ | ⟨a', b', e8, ⟨n1, n2⟩, hj⟩
    · exfalso; omega
    · have hf := cx_d c (f := f) (by omega) (by omega) (by omega)
      have fn : ¬ M 12 f = -1 := by omega
      have hd : den M2 = den M := (den_lo c.2.2).trans (den_cg (by rw [e, uz_o (by decide)]) (by rw [e, uz_o (by decide)]) (by rw [e, uz_o (by decide)]))
      have e12 : M2 12 = updI (M 12) h (M 12 f) := by rw [c.2.2 12 (by decide), e, uz_fn]
      have e5 : M2 5 = M 5 := by rw [c.2.2 5 (by decide), e, uz_o (by decide)]
      have e43 : M1 43 = M 43 := c.2.1 43 (by decide)
      refine ⟨b.trans b'.symm, CB_lo hb c.2.2, by rw [e5, e8, c.2.1 31 (by decide)]; exact c.1.2.2.2.2.1, fun j j0 j1 => ?_⟩
      rw [e12, hd]
      by_cases w : j = h
      · rw [w, updI_s]
        exact ⟨⟨fun t => absurd t fn, fun t => absurd t n1⟩, Or.inr (hf.trans n2.symm)⟩
      · rw [updI_n w, (hj j j0 j1 w).1, (hj j j0 j1 w).2, e43]
        exact c.1.2.2.2.2.2 j j0 j1
theorem sim_drop {h : Int} (c : ctx M M1 M2 J) (hc : ((h < 0 ∨ 12 ≤ h) ∧ x = -1 ∧ M1 = M) ∨ (0 ≤ h ∧ h < 12 ∧ ((M 12 h = -1 ∧ x = 0) ∨ (¬ M 12 h = -1 ∧ x = 1)) ∧ CB M1 ∧ M1 = uz M 12 h (-1))) (hr : ((h < 0 ∨ 12 ≤ h) ∧ y = -1 ∧ M2 = M1 ∧ J2 = J) ∨ (0 ≤ h ∧ h < 12 ∧ ((M1 43 h = 0 ∧ y = 0) ∨ (¬ M1 43 h = 0 ∧ y = 1)) ∧ M2 31 8 = M1 31 8 ∧ M2 43 h = 0 ∧ ∀ j : Int, 0 ≤ j → j < 12 → j ≠ h → (M2 43 j = M1 43 j ∧ phi J2 j = phi J j))) : x = y ∧ simS M2 J2 := by
  have kh := cx_k c h
  rcases hc with ⟨a, b, e⟩ | ⟨a1, a2, b, hb, e⟩
  · rcases hr with ⟨a', b', e', f'⟩ | ⟨a1', a2', -⟩
    · exact sim_same c e e' f' (b.trans b'.symm)
    · exfalso; omega
  · rcases hr with ⟨a', -⟩ | ⟨a1', a2', b', e8, n1, hj⟩
    · exfalso; omega
    · have hd : den M2 = den M := (den_lo c.2.2).trans (den_cg (by rw [e, uz_o (by decide)]) (by rw [e, uz_o (by decide)]) (by rw [e, uz_o (by decide)]))
      have e12 : M2 12 = updI (M 12) h (-1) := by rw [c.2.2 12 (by decide), e, uz_fn]
      have e5 : M2 5 = M 5 := by rw [c.2.2 5 (by decide), e, uz_o (by decide)]
      have e43 : M1 43 = M 43 := c.2.1 43 (by decide)
      refine ⟨by omega, CB_lo hb c.2.2, by rw [e5, e8, c.2.1 31 (by decide)]; exact c.1.2.2.2.2.1, fun j j0 j1 => ?_⟩
      rw [e12, hd]
      by_cases w : j = h
      · rw [w, updI_s]
        exact ⟨⟨fun _ => n1, fun _ => rfl⟩, Or.inl rfl⟩
      · rw [updI_n w, (hj j j0 j1 w).1, (hj j j0 j1 w).2, e43]
        exact c.1.2.2.2.2.2 j j0 j1
/-- as many in use on both sides -/
theorem use_eq (h : LSy M J) (ok : zOK M) {u : Int} (hu : cnt (LBc M) u) : u = M 31 24 := cnt_uniq (fun y => ls_lb h.2.1 h.1.2.1.2.1 h.2.2.2.2.2 y) hu (ref_cnt h.1.2.1.1 ok)
theorem sim_room {n : Int} (ok : zOK M) (c : ctx M M1 M2 J) (hc : ((n < 0 ∨ 250 < n) ∧ x = -2 ∧ M1 = M) ∨ (0 ≤ n ∧ n ≤ 250 ∧ rmQ M n x M1 ∧ hkr M M1)) (hr : ((n < 0 ∨ 250 < n) ∧ y = -2 ∧ M2 = M1) ∨ (0 ≤ n ∧ n ≤ 250 ∧ n < M1 31 24 ∧ y = -3 ∧ M2 = M1) ∨ (0 ≤ n ∧ n ≤ 250 ∧ M1 31 24 ≤ n ∧ y = M1 31 8 ∧ M2 = uz M1 31 8 n)) : x = y ∧ simS M2 J := by
  have e31 : M1 31 = M 31 := c.2.1 31 (by decide)
  have e24 : M1 31 24 = M 31 24 := congrFun e31 24
  have e8 : M1 31 8 = M 31 8 := congrFun e31 8
  have e43 : M1 43 = M 43 := c.2.1 43 (by decide)
  have h58 := c.1.2.2.2.2.1
  rcases hc with ⟨a, b, e⟩ | ⟨a1, a2, ⟨u, hu, hq⟩, ⟨k1, k2, k3⟩⟩
  · rcases hr with ⟨a', b', e'⟩ | ⟨a1', a2', -⟩ | ⟨a1', a2', -⟩
    · exact sim_same c e e' rfl (b.trans b'.symm)
    · exfalso; omega
    · exfalso; omega
  · have hu2 := use_eq c.1 ok hu
    have hy : ∀ N : zM, (∀ a : Nat, a ≠ 31 → N a = M1 a) → hSy N J := fun N o j j0 j1 => by
      rw [o 12 (by decide), o 43 (by decide), den_cg (o 6 (by decide)) (o 7 (by decide)) (o 8 (by decide)), k2, k3, e43]
      exact c.1.2.2.2.2.2 j j0 j1
    rcases hr with ⟨a', -⟩ | ⟨a1', a2', a3', b', e'⟩ | ⟨a1', a2', a3', b', e'⟩
    · exfalso; omega
    · rcases hq with ⟨q1, q2, q3⟩ | ⟨q1, q2, q3⟩
      · refine ⟨q2.trans b'.symm, CB_lo k1 c.2.2, ?_, hy M2 (fun a _ => by rw [e'])⟩
        rw [e', q3, e8]
        exact h58
      · exfalso; omega
    · rcases hq with ⟨q1, q2, q3⟩ | ⟨q1, q2, q3⟩
      · exfalso; omega
      · refine ⟨by omega, CB_lo k1 c.2.2, ?_, hy M2 (fun a ha => by rw [e', uz_o ha])⟩
        rw [e', uz_s, uz_oo (by decide)]
        exact q3
theorem sim_kp (c : ctx M M1 M2 J) (hq : hkp M M1) (hr : eqR M1 J M2 J2) : simS M2 J2 := kp_sim c.1.2.2.2.2.2 c.1.2.2.2.2.1 hq c.2.1 (fun j _ b => hr.1 j b) hr.2.1 hr.2.2 c.2.2
/-- handles and pool are as they were -/
theorem sim_lo (h : LSy M J) (lo : ∀ a : Nat, a < 16 → a ≠ 2 → a ≠ 3 → a ≠ 4 → a ≠ 9 → M2 a = M a) (e43 : M2 43 = M 43) (e8 : M2 31 8 = M 31 8) (j44 : J2 44 = J 44) : simS M2 J2 := by
  have l := fun (a : Nat) (h1 : a < 16) (h2 : a ≠ 2) (h3 : a ≠ 3) (h4 : a ≠ 4) (h5 : a ≠ 9) => lo a h1 h2 h3 h4 h5
  have e5 := l 5 (by decide) (by decide) (by decide) (by decide) (by decide)
  have e6 := l 6 (by decide) (by decide) (by decide) (by decide) (by decide)
  have e7 := l 7 (by decide) (by decide) (by decide) (by decide) (by decide)
  have e8' := l 8 (by decide) (by decide) (by decide) (by decide) (by decide)
  have e12 := l 12 (by decide) (by decide) (by decide) (by decide) (by decide)
  refine ⟨CB_cg (by rw [l 0 (by decide) (by decide) (by decide) (by decide) (by decide)]) e5 e6 e7 e8' (l 10 (by decide) (by decide) (by decide) (by decide) (by decide)) (l 11 (by decide) (by decide) (by decide) (by decide) (by decide)) e12 (l 13 (by decide) (by decide) (by decide) (by decide) (by decide)) (l 15 (by decide) (by decide) (by decide) (by decide) (by decide)) h.2.1, by rw [e5, e8]; exact h.2.2.2.2.1, fun j j0 j1 => ?_⟩
  rw [e12, e43, den_cg e6 e7 e8', phi_cg (J := J) (g := j) (fun k _ _ => by rw [j44])]
  exact h.2.2.2.2.2 j j0 j1
theorem sim_build {h net o : Int} (ok : zOK M) (c : ctx M M1 M2 J) (hc : ((h < 0 ∨ 12 ≤ h ∨ net < 0 ∨ 3 ≤ net ∨ o < 0 ∨ M (nA net) 5 ≤ o) ∧ x = -1 ∧ M1 = M) ∨ (¬ (h < 0 ∨ 12 ≤ h ∨ net < 0 ∨ 3 ≤ net ∨ o < 0 ∨ M (nA net) 5 ≤ o) ∧ bfQ M h (M (nA net + 1)) (fun g c => M (nA net + 2) (3 * g + c)) (M 4) (M (nA net + 3) o) x M1)) (hr : ((h < 0 ∨ 12 ≤ h ∨ net < 0 ∨ 3 ≤ net ∨ o < 0 ∨ M1 33 net ≤ o) ∧ y = -1 ∧ M2 = M1 ∧ J2 = J) ∨ (¬ (h < 0 ∨ 12 ≤ h ∨ net < 0 ∨ 3 ≤ net ∨ o < 0 ∨ M1 33 net ≤ o) ∧ brX M1 J h (fun k => M1 34 (40 * net + k)) (fun k c => M1 35 (3 * (40 * net + k) + c)) (M1 39) (M1 36 (4 * net + o)) y M2 J2)) : x = y ∧ simS M2 J2 := by
  have e33 : M1 33 = M 33 := c.2.1 33 (by decide)
  have n5 : net < 0 ∨ 3 ≤ net ∨ M (nA net) 5 = M1 33 net := by
    by_cases a : net < 0
    · exact Or.inl a
    · by_cases b : 3 ≤ net
      · exact Or.inr (Or.inl b)
      · rw [e33]
        exact Or.inr (Or.inr (c.1.1.2.2 net (by omega) (by omega)).2.1)
  rcases hc with ⟨a, b, e⟩ | ⟨a, L, lS, fq⟩
  · rcases hr with ⟨a', b', e', f'⟩ | ⟨a', -⟩
    · exact sim_same c e e' f' (b.trans b'.symm)
    · exfalso; omega
  · rcases hr with ⟨a', -⟩ | ⟨a', L', lS', fr⟩
    · exfalso; omega
    · obtain ⟨m4, m5, m3, m6⟩ := c.1.1.2.2 net (by omega) (by omega)
      have hN := cI_net c.1.1.1 (nA_at (j := net) (by omega) (by omega))
      have eg : M1 36 (4 * net + o) = M (nA net + 3) o := by
        rw [c.2.1 36 (by decide)]
        exact (m6 o (by omega) (by omega)).symm
      rw [eg] at lS' fr
      have hg := hN.2 o (by omega) (by omega)
      have r32 : 0 ≤ M 32 net ∧ M 32 net ≤ 40 := ok 32 net
      obtain ⟨g, eG⟩ : ∃ g, g = M (nA net + 3) o := ⟨_, rfl⟩
      rw [← eG] at lS' fr lS fq hg
      have hk : ∀ k : Int, 0 ≤ k → k < M 32 net → (fun k => M1 34 (40 * net + k)) k = (M (nA net + 1)) k ∧ ∀ d : Int, 0 ≤ d → d < 3 → (fun k c => M1 35 (3 * (40 * net + k) + c)) k d = (fun g c => M (nA net + 2) (3 * g + c)) k d := fun k k0 k1 => by
        rw [c.2.1 34 (by decide), c.2.1 35 (by decide)]
        exact ⟨(m3 k k0 k1).1.symm, fun d d0 d1 => ((m3 k k0 k1).2 d d0 d1).symm⟩
      have hb : odB (M (nA net + 1)) (fun g c => M (nA net + 2) (3 * g + c)) (M 32 net) := fun k k0 k1 d d0 d1 => (hN.1 k k0 (by omega)).1 d d0 d1
      have hp : ∀ k : Int, 0 ≤ k → k < M 32 net → (M (nA net + 1)) k = 0 → M1 39 ((fun g c => M (nA net + 2) (3 * g + c)) k 0) = M 4 ((fun g c => M (nA net + 2) (3 * g + c)) k 0) := fun k k0 k1 e => by
        have w := (hN.1 k k0 (by omega)).2 e
        show M1 39 (M (nA net + 2) (3 * k + 0)) = M 4 (M (nA net + 2) (3 * k + 0))
        rw [show 3 * k + 0 = 3 * k by omega]
        exact cx_o c w.1 w.2
      have hF := gF_cg (kd := (M (nA net + 1))) (kd' := (fun k => M1 34 (40 * net + k))) (od := (fun g c => M (nA net + 2) (3 * g + c))) (od' := (fun k c => M1 35 (3 * (40 * net + k) + c))) (pl := M 4) (pl' := M1 39) hb hk hp
      have hi : ∀ k z : Int, 0 ≤ k → k ≤ g → (isop (M (nA net + 1)) (fun g c => M (nA net + 2) (3 * g + c)) k z ↔ isop (fun k => M1 34 (40 * net + k)) (fun k c => M1 35 (3 * (40 * net + k) + c)) k z) := fun k z k0 k1 => by
        obtain ⟨w1, w2⟩ := hk k k0 (by omega)
        have w3 := opF_in (M (nA net + 1) k)
        unfold isop
        rw [w1]
        constructor
        · rintro ⟨d, db, de⟩
          exact ⟨d, db, (w2 d db.1 (by omega)).trans de⟩
        · rintro ⟨d, db, de⟩
          exact ⟨d, db, (w2 d db.1 (by omega)).symm.trans de⟩
      have hL := lnS_uniq (by omega) hi lS lS'
      rw [hF g (by omega) (by omega)] at fr
      have eH : ∀ k : Int, k ≤ g → EH E0 (gF (fun k => M1 34 (40 * net + k)) (fun k c => M1 35 (3 * (40 * net + k) + c)) (M1 39)) (hnd L' g k) = EH E0 (gF (M (nA net + 1)) (fun g c => M (nA net + 2) (3 * g + c)) (M 4)) (hnd L g k) := fun k k1 => by
        funext z
        refine propext (or_congr Iff.rfl ⟨fun q => ?_, fun q => ?_⟩)
        · obtain ⟨w, ⟨wb, w1, w2⟩, w3⟩ := q
          rw [hL w wb.1 (by omega)] at w1 w2
          rw [hF w wb.1 (by omega)] at w3
          exact ⟨w, ⟨wb, w1, w2⟩, w3⟩
        · obtain ⟨w, ⟨wb, w1, w2⟩, w3⟩ := q
          rw [← hL w wb.1 (by omega)] at w1 w2
          rw [← hF w wb.1 (by omega)] at w3
          exact ⟨w, ⟨wb, w1, w2⟩, w3⟩
      refine sim_fin c fq fr ⟨fun H k k0 k1 k2 => ?_, fun H k k0 k1 k2 => ?_⟩
      · rw [hL k k0 (by omega)] at k2
        rw [eH k k1, hF k k0 (by omega)]
        exact (sim_ok c).mp (H k k0 k1 k2)
      · rw [← hL k k0 (by omega)] at k2
        have z := H k k0 k1 k2
        rw [eH k k1, hF k k0 (by omega)] at z
        exact (sim_ok c).mpr z
/-- the walk of an order is alike -/
theorem od_eq {net : Int} (ok : zOK M) (h : LSy M J) (fr : ∀ a : Nat, 31 ≤ a → M1 a = M a) (n0 : 0 ≤ net) (n1 : net < 3) : vr (vG (fun k => M1 34 (40 * net + k)) (fun k c => M1 35 (3 * (40 * net + k) + c))) (fun c => M1 36 (4 * net + c)) (M1 33 net).toNat 0 (o0 (M1 38)) = vr (vs (M (nA net + 1)) (fun g c => M (nA net + 2) (3 * g + c)) 40) (M (nA net + 3)) (M (nA net) 5).toNat 0 (o0 (M 3)) := by
  obtain ⟨m4, m5, m3, m6⟩ := h.1.2.2 net n0 n1
  have hN := cI_net h.1.1 (nA_at (j := net) n0 n1)
  have r32 : 0 ≤ M 32 net ∧ M 32 net ≤ 40 := ok 32 net
  have eo : o0 (M1 38) = o0 (M 3) := by
    unfold o0
    rw [fr 38 (by decide), rs_cg (f' := M 38) (f := M 3) (n := 8) (fun j a b => (h.2.2.2.1.1 j a b).1.symm)]
  have hk : ∀ k : Int, 0 ≤ k → k < M 32 net → (fun k => M1 34 (40 * net + k)) k = (M (nA net + 1)) k ∧ ∀ d : Int, 0 ≤ d → d < 3 → (fun k c => M1 35 (3 * (40 * net + k) + c)) k d = (fun g c => M (nA net + 2) (3 * g + c)) k d := fun k k0 k1 => by
    rw [fr 34 (by decide), fr 35 (by decide)]
    exact ⟨(m3 k k0 k1).1.symm, fun d d0 d1 => ((m3 k k0 k1).2 d d0 d1).symm⟩
  have hb : odB (M (nA net + 1)) (fun g c => M (nA net + 2) (3 * g + c)) (M 32 net) := fun k k0 k1 d d0 d1 => (hN.1 k k0 (by omega)).1 d d0 d1
  have e5 : M1 33 net = M (nA net) 5 := by
    rw [fr 33 (by decide)]
    exact m5.symm
  have ho : ∀ i : Int, 0 ≤ i → i < 0 + ((M (nA net) 5).toNat : Int) → (fun c => M1 36 (4 * net + c)) i = M (nA net + 3) i := fun i a b => by
    show M1 36 (4 * net + i) = M (nA net + 3) i
    rw [fr 36 (by decide)]
    exact (m6 i a (by omega)).symm
  rw [eo, e5, vr_od (od := M (nA net + 3)) (od' := fun c => M1 36 (4 * net + c)) ho]
  refine vr_cg (fun i a b t => ?_)
  have z := hN.2 i a (by omega)
  have e1 : vG (fun k => M1 34 (40 * net + k)) (fun k c => M1 35 (3 * (40 * net + k) + c)) (M (nA net + 3) i) t = vG (M (nA net + 1)) (fun g c => M (nA net + 2) (3 * g + c)) (M (nA net + 3) i) t := vs_cg hb hk _ _ t z.1 (by omega)
  rw [e1]
  exact vs_fuel hb _ _ _ t z.1 (by omega) (by omega) (by omega)
theorem hc_hr {f g : Int → Int} : ∀ {n : Nat}, (∀ j : Int, 0 ≤ j → j < n → (f j = -1 ↔ g j = 0)) → hc f n = hr g n
  | 0, _ => rfl
  | n + 1, h => by
    have z := h n (by omega) (by omega)
    unfold hc hr
    rw [hc_hr (n := n) (fun j a b => h j a (by omega))]
    by_cases q : f n = -1
    · rw [if_pos q, if_pos (z.mp q)]
    · rw [if_neg q, if_neg (fun t => q (z.mpr t))]
theorem hd_eq (h : LSy M J) : hc (M 12) 12 = hr (M 43) 12 := hc_hr (fun j a b => (h.2.2.2.2.2 j a (by omega)).1)
theorem noH_0 (e : M1 43 = M 43) (h : noHr M1) : hr (M 43) 12 = 0 := hr_zero (fun k a b => by rw [← e]; exact h k a (by omega))
theorem exH_1 (e : M1 43 = M 43) (h : exHr M1) : 0 < hr (M 43) 12 := by
  obtain ⟨k, a, b, q⟩ := h
  rw [e] at q
  have z := hr_pos (f := M 43) (n := 12) a (by omega) q
  omega
theorem sim_told {w : Int} (h : LSy M J) (hc : ((w < 0 ∨ 7 < w) ∧ x = -2) ∨ (0 ≤ w ∧ w < 3 ∧ x = M (nA w) 4) ∨ (3 ≤ w ∧ w < 6 ∧ x = M (nA (w - 3)) 5) ∨ (w = 6 ∧ x = hc (M 12) 12) ∨ (w = 7 ∧ x = M 5 8)) (hr' : ((w < 0 ∨ 7 < w) ∧ y = -2) ∨ (0 ≤ w ∧ w < 3 ∧ y = M 32 w) ∨ (3 ≤ w ∧ w < 6 ∧ y = M 33 (w - 3)) ∨ (w = 6 ∧ y = hr (M 43) 12) ∨ (w = 7 ∧ y = M 31 8)) : x = y := by
  have e1 := hd_eq h
  have e2 := h.2.2.2.2.1
  by_cases a : 0 ≤ w ∧ w < 3
  · have e3 := (h.1.2.2 w a.1 a.2).1
    omega
  · by_cases b : 3 ≤ w ∧ w < 6
    · have e3 := (h.1.2.2 (w - 3) (by omega) (by omega)).2.1
      omega
    · omega
theorem sim_order {net : Int} (ok : zOK M) (h : LSy M J) (fr : ∀ a : Nat, 31 ≤ a → M1 a = M a) (fr2 : ∀ a : Nat, a < 31 → M2 a = M1 a) (h1 : ((net < 0 ∨ 3 ≤ net) ∧ x = -1 ∧ M1 = M) ∨ (0 ≤ net ∧ net < 3 ∧ 0 < hc (M 12) 12 ∧ x = -3 ∧ M1 = M) ∨ (0 ≤ net ∧ net < 3 ∧ hc (M 12) 12 ≤ 0 ∧ orQ (vr (vs (M (nA net + 1)) (fun g c => M (nA net + 2) (3 * g + c)) 40) (M (nA net + 3)) (M (nA net) 5).toNat 0 (o0 (M 3))) x (M1 3) (M1 4) ∧ oIn (M1 3) (M1 4))) (h2 : ((net < 0 ∨ 3 ≤ net) ∧ y = -1 ∧ M2 = M1) ∨ (0 ≤ net ∧ net < 3 ∧ exHr M1 ∧ y = -3 ∧ M2 = M1) ∨ (0 ≤ net ∧ net < 3 ∧ noHr M1 ∧ orQ (vr (vG (fun k => M1 34 (40 * net + k)) (fun k c => M1 35 (3 * (40 * net + k) + c))) (fun c => M1 36 (4 * net + c)) (M1 33 net).toNat 0 (o0 (M1 38))) y (M2 38) (M2 39))) : x = y ∧ oSy M2 := by
  have e43 := fr 43 (by decide)
  have eh := hd_eq h
  have sm : M1 = M → M2 = M1 → oSy M2 := fun a b => by rw [b, a]; exact h.2.2.2.1
  rcases h1 with ⟨a, b, e⟩ | ⟨a1, a2, a3, b, e⟩ | ⟨a1, a2, a3, q, qi⟩
  · rcases h2 with ⟨a', b', e'⟩ | ⟨a1', a2', -⟩ | ⟨a1', a2', -⟩
    · exact ⟨b.trans b'.symm, sm e e'⟩
    · exfalso; omega
    · exfalso; omega
  · rcases h2 with ⟨a', -⟩ | ⟨a1', a2', a3', b', e'⟩ | ⟨a1', a2', a3', -⟩
    · exfalso; omega
    · exact ⟨b.trans b'.symm, sm e e'⟩
    · have z := noH_0 e43 a3'
      exfalso; omega
  · rcases h2 with ⟨a', -⟩ | ⟨a1', a2', a3', -⟩ | ⟨a1', a2', a3', q'⟩
    · exfalso; omega
    · have z := exH_1 e43 a3'
      exfalso; omega
    · rw [od_eq ok h fr a1 a2] at q'
      obtain ⟨w1, w2⟩ := or_sy q q'
      refine ⟨w1, fun v v0 v1 => ?_, ?_⟩
      · rw [fr2 3 (by decide), fr2 4 (by decide)]
        exact w2 v v0 v1
      · rw [fr2 3 (by decide), fr2 4 (by decide)]
        exact qi
theorem sim_move {v p : Int} (h : LSy M J) (fr : ∀ a : Nat, 31 ≤ a → M1 a = M a) (fr2 : ∀ a : Nat, a < 31 → M2 a = M1 a) (h1 : ((v < 0 ∨ 8 ≤ v ∨ p < 0 ∨ 8 ≤ p) ∧ x = -2 ∧ M1 = M) ∨ (¬ (v < 0 ∨ 8 ≤ v ∨ p < 0 ∨ 8 ≤ p) ∧ 0 < hc (M 12) 12 ∧ x = -3 ∧ M1 = M) ∨ (¬ (v < 0 ∨ 8 ≤ v ∨ p < 0 ∨ 8 ≤ p) ∧ hc (M 12) 12 ≤ 0 ∧ x = M 4 v ∧ mvQ (M 3) (M 4) (M1 3) (M1 4) v p)) (h2 : ((v < 0 ∨ 8 ≤ v ∨ p < 0 ∨ 8 ≤ p) ∧ y = -2 ∧ M2 = M1) ∨ (¬ (v < 0 ∨ 8 ≤ v ∨ p < 0 ∨ 8 ≤ p) ∧ exHr M1 ∧ y = -3 ∧ M2 = M1) ∨ (¬ (v < 0 ∨ 8 ≤ v ∨ p < 0 ∨ 8 ≤ p) ∧ noHr M1 ∧ y = M1 39 v ∧ mvQ (M1 38) (M1 39) (M2 38) (M2 39) v p)) : x = y ∧ oSy M2 := by
  have e43 := fr 43 (by decide)
  have eh := hd_eq h
  have sm : M1 = M → M2 = M1 → oSy M2 := fun a b => by rw [b, a]; exact h.2.2.2.1
  rcases h1 with ⟨a, b, e⟩ | ⟨a, a3, b, e⟩ | ⟨a, a3, b, q⟩
  · rcases h2 with ⟨a', b', e'⟩ | ⟨a', -⟩ | ⟨a', -⟩
    · exact ⟨b.trans b'.symm, sm e e'⟩
    · exact absurd a a'
    · exact absurd a a'
  · rcases h2 with ⟨a', -⟩ | ⟨a', a3', b', e'⟩ | ⟨a', a3', -⟩
    · exact absurd a' a
    · exact ⟨b.trans b'.symm, sm e e'⟩
    · have z := noH_0 e43 a3'
      exfalso; omega
  · rcases h2 with ⟨a', -⟩ | ⟨a', a3', -⟩ | ⟨a', a3', b', q'⟩
    · exact absurd a' a
    · have z := exH_1 e43 a3'
      exfalso; omega
    · rw [fr 38 (by decide), fr 39 (by decide)] at q'
      rw [fr 39 (by decide)] at b'
      have hv := h.2.2.2.1.1 v (by omega) (by omega)
      have hi := (h.2.2.2.1.2 v (by omega) (by omega)).1
      have w := mv_sy h.2.2.2.1.1 (by omega) (by omega) (by omega) (by omega) hi.1 hi.2.1 q q'
      refine ⟨by omega, fun j j0 j1 => ?_, ?_⟩
      · rw [fr2 3 (by decide), fr2 4 (by decide)]
        exact w j j0 j1
      · rw [fr2 3 (by decide), fr2 4 (by decide)]
        exact mv_in h.2.2.2.1.2 (by omega) (by omega) (by omega) (by omega) q
/-- a new pair -/
theorem LS_0 (hc : cF M) (hp : plo M (fun _ => False)) (hr' : rZ M J) : LSy M J := by
  have li : LI M J := LI_z hc hr'
  obtain ⟨c1, ⟨c2, c3, c4⟩, c5, c6, c7, c8, c9⟩ := hc
  obtain ⟨r1, r2, r3, r4, r5, r6, r7⟩ := hr'
  have hrt : ∀ z : Int, rt M z → z = -1 := fun z hz => by
    rcases hz with ⟨j, jb, q⟩ | ⟨g, gb, q⟩ | ⟨k, kb, q⟩
    · exact q.trans (c2 j jb.1 jb.2)
    · exact q.trans (c3 g gb.1 gb.2)
    · rw [c4] at kb
      exact absurd (Int.lt_of_le_of_lt kb.1 kb.2) (by decide)
  refine ⟨li, ⟨⟨_, hp, fun z hz => Or.inl (hrt z hz)⟩, ?_, c3, c4⟩, r7, ⟨fun v a b => ?_, fun v a b => ?_⟩, by rw [c5, r3.1], fun j a b => ?_⟩
  · rintro ⟨l, -, h2, h3⟩
    cases l with
    | nil => rw [c5] at h3; exact absurd h3 (by decide)
    | cons z t =>
      obtain ⟨w, w1, w2, -⟩ := h2 z List.mem_cons_self
      exact w2 (hrt w w1)
  · rw [(c8 v a b).1, (c8 v a b).2, (r6 v a b).1, (r6 v a b).2]
    exact ⟨rfl, rfl⟩
  · have e1 := c8 v a b
    rw [e1.1, e1.2]
    exact ⟨⟨a, b, e1.1⟩, a, b, rfl⟩
  · have e1 : M 12 j = -1 := c2 j a b
    have e2 : M 43 j = 0 := r1 43 (by decide) (by decide) (by decide) (by decide) (by decide) j
    exact ⟨⟨fun _ => e2, fun _ => e1⟩, Or.inl e1⟩
end OPS
