/-! ===== the reference: its face ===== -/
/-- the reference between two calls -/
def RI (M : zM) (J : zJ) : Prop := TI M J ∧ hnd0 M ∧ M 31 24 ≤ M 31 8 ∧ rOrd M ∧ ∀ net : Int, 0 ≤ net → net < 3 → rNt M net
theorem RI_mk {M M' : zM} {J J' : zJ} (hr : RI M J) (fr : ∀ a, kRg a → M' a = M a ∧ J' a = J a) (ti : TI M' J') (hn : hnd0 M') (hu : M' 31 24 ≤ M' 31 8) : RI M' J' := by
  refine ⟨ti, hn, hu, ?_, fun net a b => rNt_fr (hr.2.2.2.2 net a b) (fr 32 (by decide)).1 (fr 33 (by decide)).1 (fr 34 (by decide)).1 (fr 35 (by decide)).1 (fr 36 (by decide)).1⟩
  unfold rOrd
  rw [(fr 39 (by decide)).1]
  exact hr.2.2.2.1
/-- what is in use hangs on the handles alone -/
theorem use_det {M M' : zM} {J J' : zJ} (h : TI M J) (h' : TI M' J') (hn : hnd0 M) (hn' : hnd0 M') (hd : hdl M M') (hok : zOK M) : M' 31 24 = M 31 24 := by
  obtain ⟨⟨ch, fl, t1⟩, t2, -⟩ := h
  obtain ⟨⟨ch', fl', t1'⟩, t2', -⟩ := h'
  rw [t1.2.2.2, t1'.2.2.2]
  refine hr_congr (fun n n0 n1 => ?_)
  rw [t2.1 n n0 (by omega), t2'.1 n n0 (by omega)]
  have e : cfn M' lo0 n 56 = cfn M lo0 n 56 := by
    refine cfn_congr (fun g g0 g1 => ?_)
    by_cases q : g < 12
    · have z := hd.1 g q
      rw [z.2]
      refine and_congr Iff.rfl ?_
      unfold inS
      rw [z.1]
      constructor
      · rintro ⟨j, a, b, c⟩
        have w : 0 ≤ M 45 g ∧ M 45 g ≤ 255 := hok 45 g
        have j0 : 0 ≤ j := a
        exact ⟨j, a, b, by rw [← hd.2.1 _ (by omega)]; exact c⟩
      · rintro ⟨j, a, b, c⟩
        have w : 0 ≤ M 45 g ∧ M 45 g ≤ 255 := hok 45 g
        have j0 : 0 ≤ j := a
        exact ⟨j, a, b, by rw [hd.2.1 _ (by omega)]; exact c⟩
    · constructor
      · rintro ⟨a, -⟩; exact absurd (hn' g (by omega) (by omega)) a
      · rintro ⟨a, -⟩; exact absurd (hn g (by omega) (by omega)) a
  rw [e]
/-- behind gets -/
theorem RI_gets {M M1 M' : zM} {J J1 J' : zJ} {h f y x : Int} (hr : RI M J) (hok : zOK M) (hd : hdl M M1) (hu : y = 1 → M1 31 24 ≤ M1 31 8) (fr : ∀ a, kRg a → M' a = M a ∧ J' a = J a) (ti : TI M' J') (hn : hnd0 M') (gx : (y = 0 ∧ x = -5 ∧ hdl M1 M' ∧ J' 44 = J1 44) ∨ (y = 1 ∧ x = M' 45 h ∧ ¬ M' 43 h = 0 ∧ M' 31 24 ≤ M1 31 24 ∧ hdx M1 M' h ∧ (∀ k : Int, 0 ≤ k → k < 4 → J' 44 (4 * h + k) = J1 44 (4 * f + k)) ∧ ∀ j : Int, (j < 4 * h ∨ 4 * h + 4 ≤ j) → J' 44 j = J1 44 j)) : RI M' J' := by
  refine RI_mk hr fr ti hn ?_
  rcases gx with ⟨-, -, q, -⟩ | ⟨e, -, -, q, q2, -⟩
  · have z := hdl_t hd q
    rw [use_det hr.1 ti hr.2.1 hn z hok, z.2.2 8 (by decide) (by decide) (by decide) (by decide)]
    exact hr.2.2.1
  · have := hu e
    rw [q2.2 8 (by decide) (by decide) (by decide) (by decide)]
    omega
theorem begin_ok {M : zM} {J : zJ} (hr : RI M J) : TI (uz M 31 25 0) J ∧ hnd0 (uz M 31 25 0) ∧ uz M 31 25 0 31 24 ≤ uz M 31 25 0 31 8 ∧ uz M 31 25 0 31 27 = M 31 27 ∧ hdl M (uz M 31 25 0) ∧ rOrd (uz M 31 25 0) := by
  refine ⟨TI_31 hr.1 (by decide) (by decide) (by decide), fun g a b => by rw [uz_oo (by decide)]; exact hr.2.1 g a b, by rw [uz_n (by decide), uz_n (by decide)]; exact hr.2.2.1, by rw [uz_n (by decide)], ⟨fun g _ => by rw [uz_oo (by decide), uz_oo (by decide)]; exact ⟨rfl, rfl⟩, fun j _ => by rw [uz_oo (by decide)], fun j _ _ c _ => by rw [uz_n c]⟩, ?_⟩
  unfold rOrd
  rw [uz_o (by decide)]
  exact hr.2.2.2.1
