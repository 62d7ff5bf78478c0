/-! ===== the reference's table: one part of a function is laid ===== -/
def TIm (M : zM) (J : zJ) (f k u0 : Int) : Prop := (∃ (ch : Int → List Int) (fl : List Int), tabA M J ch fl) ∧ tabB M lo0 ∧ (∀ g : Int, 0 ≤ g → g < 56 → g ≠ f → ¬ M 43 g = 0 → tabC M J g) ∧ (∀ n : Int, 0 ≤ n → n < 520 → M 52 n ≤ k ∧ (M 52 n = k ↔ inS M f 0 n)) ∧ ¬ M 43 f = 0 ∧ M 31 27 = k ∧ M 31 24 ≤ u0 + M 45 f ∧ tabU M J
/-- one whom a function holds is in use -/
theorem held_of {M : zM} {g n : Int} (h : tabB M lo0) (g0 : 0 ≤ g) (g1 : g < 56) (n0 : 0 ≤ n) (n1 : n < 520) (hg : ¬ M 43 g = 0) (hn : inS M g 0 n) : ¬ M 49 n = 0 := by
  rw [h.1 n n0 n1]
  have key : ∀ N : Nat, g < N → 1 ≤ cfn M lo0 n N := by
    intro N
    induction N with
    | zero => intro q; omega
    | succ N ih =>
      intro q
      have c := cfn_in M lo0 n N
      have i := ind_in (¬ M 43 (N : Int) = 0 ∧ inS M N (lo0 N) n)
      unfold cfn
      by_cases e : g = N
      · subst e
        rw [ind_t ⟨hg, hn⟩]
        omega
      · have := ih (by omega)
        omega
  have := key 56 (by omega)
  omega
/-- where f does not hold n, fewer than all hold it -/
theorem held_lt {M : zM} {f n : Int} (h : tabB M lo0) (f0 : 0 ≤ f) (f1 : f < 56) (n0 : 0 ≤ n) (n1 : n < 520) (hn : ¬ inS M f 0 n) : M 49 n ≤ 55 := by
  rw [h.1 n n0 n1]
  have key : ∀ N : Nat, f < N → cfn M lo0 n N + 1 ≤ N := by
    intro N
    induction N with
    | zero => intro q; omega
    | succ N ih =>
      intro q
      have c := cfn_in M lo0 n N
      have i := ind_in (¬ M 43 (N : Int) = 0 ∧ inS M N (lo0 N) n)
      unfold cfn
      by_cases e : f = N
      · subst e
        rw [ind_f (fun z => hn z.2)]
        omega
      · have := ih (by omega)
        omega
  have := key 56 (by omega)
  omega
theorem inS_range {M : zM} (hok : zOK M) {g lo n : Int} (h : inS M g lo n) : 0 ≤ n ∧ n < 520 := by
  obtain ⟨j, -, -, rfl⟩ := h
  have q : 0 ≤ M 46 (255 * g + j) ∧ M 46 (255 * g + j) ≤ 519 := hok 46 _
  omega
theorem tabC_pu {M : zM} {J : zJ} {f n g : Int} (h : tabC M J g) (hgf : g ≠ f) (hM : ∀ g : Int, 0 ≤ M 45 g ∧ M 45 g ≤ 255) (f0 : 0 ≤ f) (g0 : 0 ≤ g) (hnm : M 45 f < 255) : tabC (puM M f n) J g := by
  have hm : ∀ (m d : Int) (P : Int → Int64), mtc M J m d P → mtc (puM M f n) J m d P := fun m d P q => by
    unfold mtc at *
    rw [puM_o (by decide)]
    exact q
  refine ⟨fun d i a b c e q => ?_, fun m q => ?_⟩
  · obtain ⟨m, h1, h2⟩ := h.1 d i a b c e q
    exact ⟨m, (puM_inS f0 g0 hM hnm (by decide) (hM f).1).mpr (Or.inl h1), hm _ _ _ h2⟩
  · obtain ⟨d, i, h1, h2, h3⟩ := h.2 m (((puM_inS f0 g0 hM hnm (by decide) (hM f).1).mp q).resolve_right (fun z => hgf z.1))
    exact ⟨d, i, h1, h2, hm _ _ _ h3⟩
theorem push_old {M : zM} {J : zJ} {f k u0 n : Int} (hT : TIm M J f k u0) (hok : zOK M) (f0 : 0 ≤ f) (f1 : f < 56) (n0 : 0 ≤ n) (n1 : n < 520) (hnm : M 45 f ≤ 254) (hn : ¬ M 49 n = 0) (hk : ¬ M 52 n = k) : TIm (puM M f n) J f k u0 := by
  obtain ⟨⟨ch, fl, t1⟩, t2, t3, t4, t5, t6, t7, tu⟩ := hT
  have hM : ∀ g : Int, 0 ≤ M 45 g ∧ M 45 g ≤ 255 := fun g => hok 45 g
  have hno : ¬ inS M f 0 n := fun q => hk ((t4 n n0 n1).2.mpr q)
  have e43 : puM M f n 43 = M 43 := puM_o (by decide)
  refine ⟨⟨ch, fl, tabA_old t1 hok hn⟩, tabB_pu t2 hM f0 f1 n0 n1 t5 (by omega) hno, fun g g0 g1 hg q => ?_, fun m m0 m1 => ?_, by rw [e43]; exact t5, by rw [puM_23 (by decide)]; exact t6, ?_, ?_⟩
  · rw [e43] at q
    exact tabC_pu (t3 g g0 g1 hg q) hg hM f0 g0 (by omega)
  · rw [puM_52, t6, puM_inS f0 f0 hM (by omega) (by decide) (hM f).1]
    by_cases e : m = n
    · subst e
      rw [updI_s]
      exact ⟨by omega, fun _ => Or.inr ⟨rfl, rfl⟩, fun _ => rfl⟩
    · rw [updI_n e]
      exact ⟨(t4 m m0 m1).1, fun q => Or.inl ((t4 m m0 m1).2.mp q), fun q => (t4 m m0 m1).2.mpr (q.resolve_right (fun z => e z.2))⟩
  · rw [puM_24, if_neg hn, puM_45, updI_s]
    omega
  · refine tabU_mv tu (fun m hm => ?_) (puM_o (by decide)) rfl
    rw [puM_49] at hm
    by_cases e : m = n
    · rw [e]; exact hn
    · rw [updI_n e] at hm; exact hm
