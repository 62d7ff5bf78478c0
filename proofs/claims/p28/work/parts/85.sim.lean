/-! ===== both sides between calls ===== -/
/-- the handles' functions are alike -/
def hSy (M : zM) (J : zJ) : Prop := ∀ h : Int, 0 ≤ h → h < 12 → (M 12 h = -1 ↔ M 43 h = 0) ∧ (M 12 h = -1 ∨ den M (M 12 h) = phi J h)
def oSy (M : zM) : Prop := (∀ v : Int, 0 ≤ v → v < 8 → M 3 v = M 38 v ∧ M 4 v = M 39 v) ∧ oIn (M 3) (M 4)
def LSy (M : zM) (J : zJ) : Prop := LI M J ∧ CB M ∧ whOK J ∧ oSy M ∧ M 5 8 = M 31 8 ∧ hSy M J
/-- what is in use is alike -/
theorem ls_lb {M : zM} {J : zJ} (hb : CB M) (hn : hnd0 M) (hs : hSy M J) (y : Lb) : LBc M y ↔ LBr M J y := by
  constructor
  · intro hy
    obtain ⟨j, jb, a, b⟩ := CB_rt hb hy
    obtain ⟨p, q⟩ := hs j jb.1 jb.2
    rw [q.resolve_left a] at b
    exact ⟨j, by omega, fun t => a (p.mpr t), b⟩
  · rintro ⟨f, fb, a, b⟩
    have hf : f < 12 := by
      by_cases w : f < 12
      · exact w
      · exact absurd (hn f (by omega) fb.2) a
    obtain ⟨p, q⟩ := hs f fb.1 hf
    have a' : ¬ M 12 f = -1 := fun t => a (p.mp t)
    exact ⟨M 12 f, Or.inl ⟨f, ⟨fb.1, hf⟩, rfl⟩, a', by rw [q.resolve_left a']; exact b⟩
/-- room is alike, also behind the class's call -/
theorem ls_ok {M M1 : zM} {J : zJ} {E : Lb → Prop} {F : FN} (hb : CB M) (hn : hnd0 M) (hs : hSy M J) (h58 : M 5 8 = M 31 8) (e43 : M1 43 = M 43) (e31 : M1 31 = M 31) : okP M E F ↔ okR M1 J E F := by
  rw [okR_cg (M := M) e43 (by rw [e31])]
  unfold okP okR
  rw [h58, over_cg (fun y => or_congr (or_congr (ls_lb hb hn hs y) Iff.rfl) Iff.rfl)]
/-- a call that gives a handle, on both sides -/
theorem fin_sim {M M1 M2 : zM} {J J2 : zJ} {h x y : Int} {ok ok' : Prop} {F : FN} (hb : CB M) (hn : hnd0 M) (hs : hSy M J) (h58 : M 5 8 = M 31 8) (hq : finQ M h ok F x M1) (fr : ∀ a : Nat, 31 ≤ a → M1 a = M a) (hr : finR M1 J h ok' F y M2 J2) (fr2 : ∀ a : Nat, a < 31 → M2 a = M1 a) (e : ok ↔ ok') : x = y ∧ CB M2 ∧ M2 5 8 = M2 31 8 ∧ hSy M2 J2 := by
  obtain ⟨q1, q2, q3⟩ := hq
  obtain ⟨r1, r2⟩ := hr
  have hd : den M2 = den M1 := den_cg (fr2 6 (by decide)) (fr2 7 (by decide)) (fr2 8 (by decide))
  have hcb : CB M2 := CB_cg (by rw [fr2 0 (by decide)]) (fr2 5 (by decide)) (fr2 6 (by decide)) (fr2 7 (by decide)) (fr2 8 (by decide)) (fr2 10 (by decide)) (fr2 11 (by decide)) (fr2 12 (by decide)) (fr2 13 (by decide)) (fr2 15 (by decide)) q1
  have h8 : M2 5 8 = M2 31 8 := by rw [fr2 5 (by decide), q2, h58, r1, fr 31 (by decide)]
  have old : ∀ j : Int, 0 ≤ j → j < 12 → (M1 12 j = M 12 j ∧ (M 12 j = -1 ∨ den M1 (M 12 j) = den M (M 12 j))) → (M2 43 j = M1 43 j ∧ phi J2 j = phi J j) → (M2 12 j = -1 ↔ M2 43 j = 0) ∧ (M2 12 j = -1 ∨ den M2 (M2 12 j) = phi J2 j) := fun j a b c d => by
    obtain ⟨p, q⟩ := hs j a b
    rw [fr2 12 (by decide), c.1, d.1, d.2, hd, fr 43 (by decide)]
    refine ⟨p, ?_⟩
    rcases q with w | w
    · exact Or.inl w
    · rcases c.2 with v | v
      · exact Or.inl v
      · exact Or.inr (v.trans w)
  rcases q3 with ⟨a1, a2, a3⟩ | ⟨a1, a2, ⟨a3, a4⟩, a5⟩
  · rcases r2 with ⟨b1, b2, b3⟩ | ⟨b1, -⟩
    · exact ⟨a2.trans b2.symm, hcb, h8, fun j j0 j1 => old j j0 j1 (a3 j j0 j1) (b3 j j0 j1)⟩
    · exact absurd (e.mpr b1) a1
  · rcases r2 with ⟨b1, -⟩ | ⟨b1, b2, ⟨b3, b4⟩, b5⟩
    · exact absurd (e.mp a1) b1
    · refine ⟨cnt_uniq (fun _ => Iff.rfl) a2 b2, hcb, h8, fun j j0 j1 => ?_⟩
      by_cases w : j = h
      · rw [w, fr2 12 (by decide), hd]
        exact ⟨⟨fun t => absurd t a3, fun t => absurd t b3⟩, Or.inr (a4.trans b4.symm)⟩
      · exact old j j0 j1 (a5 j j0 j1 w) (b5 j j0 j1 w)
/-- handles kept on both sides -/
theorem kp_sim {M M1 M2 : zM} {J J2 : zJ} (hs : hSy M J) (h58 : M 5 8 = M 31 8) (hq : hkp M M1) (fr : ∀ a : Nat, 31 ≤ a → M1 a = M a) (e43 : ∀ j : Int, 0 ≤ j → j < 12 → M2 43 j = M1 43 j) (e44 : ∀ j : Int, j < 48 → J2 44 j = J 44 j) (e8 : M2 31 8 = M1 31 8) (fr2 : ∀ a : Nat, a < 31 → M2 a = M1 a) : CB M2 ∧ M2 5 8 = M2 31 8 ∧ hSy M2 J2 := by
  obtain ⟨q1, q2, q3⟩ := hq
  have hd : den M2 = den M1 := den_cg (fr2 6 (by decide)) (fr2 7 (by decide)) (fr2 8 (by decide))
  refine ⟨CB_cg (by rw [fr2 0 (by decide)]) (fr2 5 (by decide)) (fr2 6 (by decide)) (fr2 7 (by decide)) (fr2 8 (by decide)) (fr2 10 (by decide)) (fr2 11 (by decide)) (fr2 12 (by decide)) (fr2 13 (by decide)) (fr2 15 (by decide)) q1, by rw [fr2 5 (by decide), q2, h58, e8, fr 31 (by decide)], fun j a b => ?_⟩
  obtain ⟨p, q⟩ := hs j a b
  obtain ⟨c1, c2⟩ := q3 j a b
  rw [fr2 12 (by decide), c1, e43 j a b, hd, fr 43 (by decide), phi_cg (J := J) (g := j) (fun k k0 k1 => e44 _ (by omega))]
  refine ⟨p, ?_⟩
  rcases q with w | w
  · exact Or.inl w
  · rcases c2 with v | v
    · exact Or.inl v
    · exact Or.inr (v.trans w)
/-- how many handles have a function -/
theorem hs_f {M : zM} {J : zJ} (hs : hSy M J) {f : Int} (f0 : 0 ≤ f) (f1 : f < 12) : (M 12 f = -1 ↔ M 43 f = 0) := (hs f f0 f1).1
