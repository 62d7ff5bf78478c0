section
/-! ===== both sides between calls ===== -/
/-- the handles' functions are alike -/
def hSy (M : zM) (J : zJ) : Prop := ∀ h : Int, 0 ≤ h → h < 12 → (M 12 h = -1 ↔ M 43 h = 0) ∧ (M 12 h = -1 ∨ den M (M 12 h) = phi J h)
def oSy (M : zM) : Prop := (∀ v : Int, 0 ≤ v → v < 8 → M 3 v = M 38 v ∧ M 4 v = M 39 v) ∧ oIn (M 3) (M 4)
def LSy (M : zM) (J : zJ) : Prop := LI M J ∧ CB M ∧ whOK J ∧ oSy M ∧ M 5 8 = M 31 8 ∧ hSy M J
/-- what is in use is alike -/
theorem ls_lb {M : zM} {J : zJ} (hb : CB M) (hn : hnd0 M) (hs : hSy M J) (y : Lb) : LBc M y ↔ LBr M J y := by
  constructor
  · intro hy
    obtain ⟨j, jb, a, b⟩ := CB_rt hb hy
    obtain ⟨p, q⟩ := hs j jb.1 jb.2
    rw [q.resolve_left a] at b
    exact ⟨j, by omega, fun t => a (p.mpr t), b⟩
  · rintro ⟨f, fb, a, b⟩
    have hf : f < 12 := by
      by_cases w : f < 12
      · exact w
      · exact absurd (hn f (by omega) fb.2) a
    obtain ⟨p, q⟩ := hs f fb.1 hf
    have a' : ¬ M 12 f = -1 := fun t => a (p.mp t)
    exact ⟨M 12 f, Or.inl ⟨f, ⟨fb.1, hf⟩, rfl⟩, a', by rw [q.resolve_left a']; exact b⟩
/-- room is alike, also behind the class's call -/
theorem ls_ok {M M1 : zM} {J : zJ} {E : Lb → Prop} {F : FN} (hb : CB M) (hn : hnd0 M) (hs : hSy M J) (h58 : M 5 8 = M 31 8) (e43 : M1 43 = M 43) (e31 : M1 31 = M 31) : okP M E F ↔ okR M1 J E F := by
  rw [okR_cg (M := M) e43 (by rw [e31])]
  unfold okP okR
  rw [h58, over_cg (fun y => or_congr (or_congr (ls_lb hb hn hs y) Iff.rfl) Iff.rfl)]
/-- a call that gives a handle, on both sides -/
theorem fin_sim {M M1 M2 : zM} {J J2 : zJ} {h x y : Int} {ok ok' : Prop} {F : FN} (hb : CB M) (hn : hnd0 M) (hs : hSy M J) (h58 : M 5 8 = M 31 8) (hq : finQ M h ok F x M1) (fr : ∀ a : Nat, 31 ≤ a → M1 a = M a) (hr : finR M1 J h ok' F y M2 J2) (fr2 : ∀ a : Nat, a < 31 → M2 a = M1 a) (e : ok ↔ ok') : x = y ∧ CB M2 ∧ M2 5 8 = M2 31 8 ∧ hSy M2 J2 := by
  obtain ⟨q1, q2, q3⟩ := hq
  obtain ⟨r1, r2⟩ := hr
  have hd : den M2 = den M1 := den_cg (fr2 6 (by decide)) (fr2 7 (by decide)) (fr2 8 (by decide))
  have hcb : CB M2 := CB_cg (by rw [fr2 0 (by decide)]) (fr2 5 (by decide)) (fr2 6 (by decide)) (fr2 7 (by decide)) (fr2 8 (by decide)) (fr2 10 (by decide)) (fr2 11 (by decide)) (fr2 12 (by decide)) (fr2 13 (by decide)) (fr2 15 (by decide)) q1
  have h8 : M2 5 8 = M2 31 8 := by rw [fr2 5 (by decide), q2, h58, r1, fr 31 (by decide)]
  have old : ∀ j : Int, 0 ≤ j → j < 12 → (M1 12 j = M 12 j ∧ (M 12 j = -1 ∨ den M1 (M 12 j) = den M (M 12 j))) → (M2 43 j = M1 43 j ∧ phi J2 j = phi J j) → (M2 12 j = -1 ↔ M2 43 j = 0) ∧ (M2 12 j = -1 ∨ den M2 (M2 12 j) = phi J2 j) := fun j a b c d => by
    obtain ⟨p, q⟩ := hs j a b
    rw [fr2 12 (by decide), c.1, d.1, d.2, hd, fr 43 (by decide)]
    refine ⟨p, ?_⟩
    rcases q with w | w
    · exact Or.inl w
    · rcases c.2 with v | v
      · exact Or.inl v
      · exact Or.inr (v.trans w)
  rcases q3 with ⟨a1, a2, a3⟩ | ⟨a1, a2, ⟨a3, a4⟩, a5⟩
  · rcases r2 with ⟨b1, b2, b3⟩ | ⟨b1, -⟩
    · exact ⟨a2.trans b2.symm, hcb, h8, fun j j0 j1 => old j j0 j1 (a3 j j0 j1) (b3 j j0 j1)⟩
    · exact absurd (e.mpr b1) a1
  · rcases r2 with ⟨b1, -⟩ | ⟨b1, b2, ⟨b3, b4⟩, b5⟩
    · exact absurd (e.mp a1) b1
    · refine ⟨cnt_uniq (fun _ => Iff.rfl) a2 b2, hcb, h8, fun j j0 j1 => ?_⟩
      by_cases w : j = h
      · rw [w, fr2 12 (by decide), hd]
        exact ⟨⟨fun t => absurd t a3, fun t => absurd t b3⟩, Or.inr (a4.trans b4.symm)⟩
      · exact old j j0 j1 (a5 j j0 j1 w) (b5 j j0 j1 w)
/-- handles kept on both sides -/
theorem kp_sim {M M1 M2 : zM} {J J2 : zJ} (hs : hSy M J) (h58 : M 5 8 = M 31 8) (hq : hkp M M1) (fr : ∀ a : Nat, 31 ≤ a → M1 a = M a) (e43 : ∀ j : Int, 0 ≤ j → j < 12 → M2 43 j = M1 43 j) (e44 : ∀ j : Int, j < 48 → J2 44 j = J 44 j) (e8 : M2 31 8 = M1 31 8) (fr2 : ∀ a : Nat, a < 31 → M2 a = M1 a) : CB M2 ∧ M2 5 8 = M2 31 8 ∧ hSy M2 J2 := by
  obtain ⟨q1, q2, q3⟩ := hq
  have hd : den M2 = den M1 := den_cg (fr2 6 (by decide)) (fr2 7 (by decide)) (fr2 8 (by decide))
  refine ⟨CB_cg (by rw [fr2 0 (by decide)]) (fr2 5 (by decide)) (fr2 6 (by decide)) (fr2 7 (by decide)) (fr2 8 (by decide)) (fr2 10 (by decide)) (fr2 11 (by decide)) (fr2 12 (by decide)) (fr2 13 (by decide)) (fr2 15 (by decide)) q1, by rw [fr2 5 (by decide), q2, h58, e8, fr 31 (by decide)], fun j a b => ?_⟩
  obtain ⟨p, q⟩ := hs j a b
  obtain ⟨c1, c2⟩ := q3 j a b
  rw [fr2 12 (by decide), c1, e43 j a b, hd, fr 43 (by decide), phi_cg (J := J) (g := j) (fun k k0 k1 => e44 _ (by omega))]
  refine ⟨p, ?_⟩
  rcases q with w | w
  · exact Or.inl w
  · rcases c2 with v | v
    · exact Or.inl v
    · exact Or.inr (v.trans w)
end
section
/-! ===== the class: a new object; gives ===== -/
abbrev kGv (a : Nat) : Prop := ¬ a = 20 ∧ ¬ a = 25 ∧ ¬ a = 30
theorem plo_no {M : zM} {w : Int → Int} (h : plo M (mC w)) (hw : ∀ n : Int, 2 ≤ n → n < 252 → w n = 0) : plo M (fun _ => False) := by
  have e : mC w = (fun _ => False) := funext (fun n => propext ⟨fun q => q.2 (hw n q.1.1 q.1.2), fun q => q.elim⟩)
  rw [e] at h
  exact h
set_option maxRecDepth 20000 in
theorem zX2_sweep_h {G : tl_G} {M : zM} {J : zJ} {F : zF} {S : Int → Prop} (hF : PoolF F) (hp : pst M S) (hC : ∀ n : Int, mC (M 9) n → S n ∧ okN (mC (M 9)) (M 7 n) ∧ okN (mC (M 9)) (M 8 n)) : ZN G yX2_sweep mX2_sweep 1 kSweep [vR 5] F M J (qV (fun M' J' => J' = J ∧ M' 5 8 = M 5 8 ∧ plo M' (mC (M 9)))) := by
  refine ZN_of (L := [_, _]) (by decide) rfl rfl (Nat.le_of_ble_eq_true rfl) rfl (fun hav => ?_)
  refine Z_aload_n (n := 1) dX2_sweep_0 rfl rfl ?_
  refine Z_getA (n := 4) dX2_sweep_1 rfl ffX2_27 (by first | exact hF.1 | exact hF.2.1.1 | exact hF.2.1.2.1 | exact hF.2.1.2.2.1 | exact hF.2.1.2.2.2.1 | exact hF.2.1.2.2.2.2 | exact hF.2.2.1 | exact hF.2.2.2.1 | exact hF.2.2.2.2.1 | exact hF.2.2.2.2.2.1 | exact hF.2.2.2.2.2.2 | rfl) (by first | exact hF.1 | exact hF.2.1.1 | exact hF.2.1.2.1 | exact hF.2.1.2.2.1 | exact hF.2.1.2.2.2.1 | exact hF.2.1.2.2.2.2 | exact hF.2.2.1 | exact hF.2.2.2.1 | exact hF.2.2.2.2.1 | exact hF.2.2.2.2.2.1 | exact hF.2.2.2.2.2.2 | rfl) ?_
  refine Z_iconst (n := 5) dX2_sweep_4 rfl (by decide) ?_
  refine Z_callSv (n := 8) [_, _] _ dX2_sweep_5 rfl cwX2_43 rfl rfl (Nat.le_of_ble_eq_true rfl) (by refine ⟨?_, ?_, ?_, ?_⟩ <;> exact Nat.le_of_ble_eq_true rfl) (fun _ h => h) (zJ7_fill_53178  (by exact hF.2.2.2.2.2.2) (by decide) (by exact fun _ => rfl) (by decide) (by decide) (by decide)) ?_
  intro M5 J5 f5 q5
  obtain ⟨e5_1, e5_2⟩ := q5
  replace e5_1 := e5_1.symm; subst e5_1
  replace e5_2 := e5_2.symm; subst e5_2
  refine Z_aload_n (n := 9) dX2_sweep_8 rfl rfl ?_
  refine Z_iconst (n := 10) dX2_sweep_9 rfl (by decide) ?_
  refine Z_putI (n := 13) (ki := 6) dX2_sweep_10 rfl ffX2_30 rfl (by decide) (by first | exact hF.1 | exact hF.2.1.1 | exact hF.2.1.2.1 | exact hF.2.1.2.2.1 | exact hF.2.1.2.2.2.1 | exact hF.2.1.2.2.2.2 | exact hF.2.2.1 | exact hF.2.2.2.1 | exact hF.2.2.2.2.1 | exact hF.2.2.2.2.2.1 | exact hF.2.2.2.2.2.2 | rfl) (by first | exact hF.1 | exact hF.2.1.1 | exact hF.2.1.2.1 | exact hF.2.1.2.2.1 | exact hF.2.1.2.2.2.1 | exact hF.2.1.2.2.2.2 | exact hF.2.2.1 | exact hF.2.2.2.1 | exact hF.2.2.2.2.1 | exact hF.2.2.2.2.2.1 | exact hF.2.2.2.2.2.2 | rfl) (by first | assumption | omega | decide) (by first | assumption | omega | decide) (by decide) ?_
  refine Z_aload_n (n := 14) dX2_sweep_13 rfl rfl ?_
  refine Z_iconst (n := 15) dX2_sweep_14 rfl (by decide) ?_
  refine Z_putI (n := 18) (ki := 7) dX2_sweep_15 rfl ffX2_34 rfl (by decide) (by first | exact hF.1 | exact hF.2.1.1 | exact hF.2.1.2.1 | exact hF.2.1.2.2.1 | exact hF.2.1.2.2.2.1 | exact hF.2.1.2.2.2.2 | exact hF.2.2.1 | exact hF.2.2.2.1 | exact hF.2.2.2.2.1 | exact hF.2.2.2.2.2.1 | exact hF.2.2.2.2.2.2 | rfl) (by first | exact hF.1 | exact hF.2.1.1 | exact hF.2.1.2.1 | exact hF.2.1.2.2.1 | exact hF.2.1.2.2.2.1 | exact hF.2.1.2.2.2.2 | exact hF.2.2.1 | exact hF.2.2.2.1 | exact hF.2.2.2.2.1 | exact hF.2.2.2.2.2.1 | exact hF.2.2.2.2.2.2 | rfl) (by first | assumption | omega | decide) (by first | assumption | omega | decide) (by decide) ?_
  refine Z_sipush (n := 21) dX2_sweep_18 rfl (by decide) (by decide) ?_
  refine Z_istore_n (L' := [_, _]) (n := 22) dX2_sweep_21 rfl (by decide) rfl rfl ?_
  have lp22 : ∀ (N22 : Nat) (n : Int) (M22 : zM) (J22 : zJ), (n.toNat) < N22 → (J22 = J) → (1 ≤ n) → (n ≤ 251) → (M22 5 7 ≤ 251 - n) → (M22 5 8 = M 5 8) → (swE M22 (mC (M 9)) n) → TZ G mX2_sweep (tl_rm 1 0 0) 0 0 kSweep M J 22 [some (vR 5), some (vI n)] [] F M22 J22 (ZM G (zPost G kSweep F M J (qV (fun M' J' => J' = J ∧ M' 5 8 = M 5 8 ∧ plo M' (mC (M 9))))) 0 0) := by
    intro N22
    induction N22 with
    | zero => intro n M22 J22 hN; omega
    | succ N22 ih22 =>
      intro n M22 J22 hN22 i22_0 i22_1 i22_2 i22_3 i22_4 i22_5
      refine Z_iload_n (n := 23) dX2_sweep_22 rfl rfl ?_
      refine Z_iconst (n := 24) dX2_sweep_23 rfl (by decide) ?_
      refine Z_icmp_lt (n := 27) (t := 65) dX2_sweep_24 rfl (by decide) (fun c24 => ?_) (fun c24 => ?_)
      · refine Z_fr (fun fr22 => ?_)
        refine Z_vret dX2_sweep_65 rfl ?_
        refine ⟨i22_0, i22_4, swT_end (M := M) ?_ ?_⟩
        · rw [show n = 1 by omega] at i22_5; exact i22_5
        · exact pst_cg (fr22 6 (by decide)).1 (fr22 7 (by decide)).1 (fr22 8 (by decide)).1 (pst_less hp hC)
      · refine Z_aload_n (n := 28) dX2_sweep_27 rfl rfl ?_
        refine Z_fr (fun fr22 => ?_)
        refine Z_ok (fun ok22 => ?_)
        have g7 : 0 ≤ M22 7 n ∧ M22 7 n ≤ 251 := ok22 7 n
        have g8 : 0 ≤ M22 8 n ∧ M22 8 n ≤ 251 := ok22 8 n
        refine Z_rg 5 7 rfl (fun g57 g57b => ?_)
        have e9 : M22 9 n = M 9 n := congrFun (fr22 9 (by decide)).1 n
        refine Z_getA (n := 31) dX2_sweep_28 rfl ffX2_21 (by first | exact hF.1 | exact hF.2.1.1 | exact hF.2.1.2.1 | exact hF.2.1.2.2.1 | exact hF.2.1.2.2.2.1 | exact hF.2.1.2.2.2.2 | exact hF.2.2.1 | exact hF.2.2.2.1 | exact hF.2.2.2.2.1 | exact hF.2.2.2.2.2.1 | exact hF.2.2.2.2.2.2 | rfl) (by first | exact hF.1 | exact hF.2.1.1 | exact hF.2.1.2.1 | exact hF.2.1.2.2.1 | exact hF.2.1.2.2.2.1 | exact hF.2.1.2.2.2.2 | exact hF.2.2.1 | exact hF.2.2.2.1 | exact hF.2.2.2.2.1 | exact hF.2.2.2.2.2.1 | exact hF.2.2.2.2.2.2 | rfl) ?_
        refine Z_iload_n (n := 32) dX2_sweep_31 rfl rfl ?_
        refine Z_iald (n := 33) dX2_sweep_32 rfl (by first | exact hF.1 | exact hF.2.1.1 | exact hF.2.1.2.1 | exact hF.2.1.2.2.1 | exact hF.2.1.2.2.2.1 | exact hF.2.1.2.2.2.2 | exact hF.2.2.1 | exact hF.2.2.2.1 | exact hF.2.2.2.2.1 | exact hF.2.2.2.2.2.1 | exact hF.2.2.2.2.2.2 | rfl) (by first | exact hF.1 | exact hF.2.1.1 | exact hF.2.1.2.1 | exact hF.2.1.2.2.1 | exact hF.2.1.2.2.2.1 | exact hF.2.1.2.2.2.2 | exact hF.2.2.1 | exact hF.2.2.2.1 | exact hF.2.2.2.2.1 | exact hF.2.2.2.2.2.1 | exact hF.2.2.2.2.2.2 | rfl) (by first | decide | assumption) (by omega) (by omega) (fun r32 s32 => ?_)
        refine Z_if_eq (n := 36) (t := 44) dX2_sweep_33 rfl (by decide) (fun c33 => ?_) (fun c33 => ?_)
        · refine Z_aload_n (n := 45) dX2_sweep_44 rfl rfl ?_
          refine Z_getA (n := 48) dX2_sweep_45 rfl ffX2_24 (by first | exact hF.1 | exact hF.2.1.1 | exact hF.2.1.2.1 | exact hF.2.1.2.2.1 | exact hF.2.1.2.2.2.1 | exact hF.2.1.2.2.2.2 | exact hF.2.2.1 | exact hF.2.2.2.1 | exact hF.2.2.2.2.1 | exact hF.2.2.2.2.2.1 | exact hF.2.2.2.2.2.2 | rfl) (by first | exact hF.1 | exact hF.2.1.1 | exact hF.2.1.2.1 | exact hF.2.1.2.2.1 | exact hF.2.1.2.2.2.1 | exact hF.2.1.2.2.2.2 | exact hF.2.2.1 | exact hF.2.2.2.1 | exact hF.2.2.2.2.1 | exact hF.2.2.2.2.2.1 | exact hF.2.2.2.2.2.2 | rfl) ?_
          refine Z_iload_n (n := 49) dX2_sweep_48 rfl rfl ?_
          refine Z_aload_n (n := 50) dX2_sweep_49 rfl rfl ?_
          refine Z_getI (n := 53) (ki := 6) dX2_sweep_50 rfl ffX2_30 rfl (by first | exact hF.1 | exact hF.2.1.1 | exact hF.2.1.2.1 | exact hF.2.1.2.2.1 | exact hF.2.1.2.2.2.1 | exact hF.2.1.2.2.2.2 | exact hF.2.2.1 | exact hF.2.2.2.1 | exact hF.2.2.2.2.1 | exact hF.2.2.2.2.2.1 | exact hF.2.2.2.2.2.2 | rfl) (by first | exact hF.1 | exact hF.2.1.1 | exact hF.2.1.2.1 | exact hF.2.1.2.2.1 | exact hF.2.1.2.2.2.1 | exact hF.2.1.2.2.2.2 | exact hF.2.2.1 | exact hF.2.2.2.1 | exact hF.2.2.2.2.1 | exact hF.2.2.2.2.2.1 | exact hF.2.2.2.2.2.2 | rfl) (fun r50 s50 => ?_)
          refine Z_iast (n := 54) dX2_sweep_53 rfl (by first | exact hF.1 | exact hF.2.1.1 | exact hF.2.1.2.1 | exact hF.2.1.2.2.1 | exact hF.2.1.2.2.2.1 | exact hF.2.1.2.2.2.2 | exact hF.2.2.1 | exact hF.2.2.2.1 | exact hF.2.2.2.2.1 | exact hF.2.2.2.2.2.1 | exact hF.2.2.2.2.2.2 | rfl) (by first | exact hF.1 | exact hF.2.1.1 | exact hF.2.1.2.1 | exact hF.2.1.2.2.1 | exact hF.2.1.2.2.2.1 | exact hF.2.1.2.2.2.2 | exact hF.2.2.1 | exact hF.2.2.2.1 | exact hF.2.2.2.2.1 | exact hF.2.2.2.2.2.1 | exact hF.2.2.2.2.2.2 | rfl) (by first | decide | assumption) (by omega) (by omega) (by first | assumption | omega | decide) (by first | assumption | omega | decide) (by decide) ?_
          refine Z_aload_n (n := 55) dX2_sweep_54 rfl rfl ?_
          refine Z_iload_n (n := 56) dX2_sweep_55 rfl rfl ?_
          refine Z_putI (n := 59) (ki := 6) dX2_sweep_56 rfl ffX2_30 rfl (by decide) (by first | exact hF.1 | exact hF.2.1.1 | exact hF.2.1.2.1 | exact hF.2.1.2.2.1 | exact hF.2.1.2.2.2.1 | exact hF.2.1.2.2.2.2 | exact hF.2.2.1 | exact hF.2.2.2.1 | exact hF.2.2.2.2.1 | exact hF.2.2.2.2.2.1 | exact hF.2.2.2.2.2.2 | rfl) (by first | exact hF.1 | exact hF.2.1.1 | exact hF.2.1.2.1 | exact hF.2.1.2.2.1 | exact hF.2.1.2.2.2.1 | exact hF.2.1.2.2.2.2 | exact hF.2.2.1 | exact hF.2.2.2.1 | exact hF.2.2.2.2.1 | exact hF.2.2.2.2.2.1 | exact hF.2.2.2.2.2.2 | rfl) (by first | assumption | omega | decide) (by first | assumption | omega | decide) (by decide) ?_
          have t3 : frez M22 n 5 7 ≤ 251 - (n + -1) := by rw [frez_57]; omega
          have t4 : frez M22 n 5 8 = M 5 8 := frez_58.trans i22_4
          have t5 : swE (frez M22 n) (mC (M 9)) (n + -1) := swT_fre i22_5 (by omega) (by omega) (fun q => q.2 (by omega))
          refine Z_iinc (L' := [_, _]) (n := 62) dX2_sweep_59 rfl rfl (by decide) rfl rfl (by omega) rfl ?_
          refine Z_goto (t := 22) dX2_sweep_62 (by decide) ?_
          refine Z_loc (L' := [some _, some _]) (lsub_same (lsub_same lsub_nil)) ?_
          exact ih22 _ _ _ (by omega) (by assumption) (by first | assumption | omega | decide) (by first | assumption | omega | decide) (by exact t3) (by exact t4) (by exact t5)
        · refine Z_aload_n (n := 37) dX2_sweep_36 rfl rfl ?_
          refine Z_iload_n (n := 38) dX2_sweep_37 rfl rfl ?_
          refine Z_callVv (n := 41) [_] _ dX2_sweep_38 rfl cwX2_64 rfl rfl (by first | exact hF.1 | exact hF.2.1.1 | exact hF.2.1.2.1 | exact hF.2.1.2.2.1 | exact hF.2.1.2.2.2.1 | exact hF.2.1.2.2.2.2 | exact hF.2.2.1 | exact hF.2.2.2.1 | exact hF.2.2.2.2.1 | exact hF.2.2.2.2.2.1 | exact hF.2.2.2.2.2.2 | rfl) (Nat.le_of_ble_eq_true rfl) (by refine ⟨?_, ?_, ?_, ?_⟩ <;> exact Nat.le_of_ble_eq_true rfl) (fun _ h => h) (zX2_enter  (by exact hF) (by omega) (by omega) (by omega) (by decide) (by decide) (by decide)) ?_
          intro M38 J38 f38 q38
          obtain ⟨e38_1, e38_2⟩ := q38
          replace e38_1 := e38_1.symm; subst e38_1
          replace e38_2 := e38_2.symm; subst e38_2
          have t3 : entz M22 n 5 7 ≤ 251 - (n + -1) := by rw [entz_57]; omega
          have t4 : entz M22 n 5 8 = M 5 8 := entz_58.trans i22_4
          have t5 : swE (entz M22 n) (mC (M 9)) (n + -1) := swT_ent i22_5 (by omega) (by omega) ⟨by omega, by omega⟩ (zxor_in g7.1 (by omega) g8.1 (by omega))
          refine Z_goto (t := 59) dX2_sweep_41 (by decide) ?_
          refine Z_iinc (L' := [_, _]) (n := 62) dX2_sweep_59 rfl rfl (by decide) rfl rfl (by omega) rfl ?_
          refine Z_goto (t := 22) dX2_sweep_62 (by decide) ?_
          refine Z_loc (L' := [some _, some _]) (lsub_same (lsub_same lsub_nil)) ?_
          exact ih22 _ _ _ (by omega) (by assumption) (by first | assumption | omega | decide) (by first | assumption | omega | decide) (by exact t3) (by exact t4) (by exact t5)
  refine Z_loc (L' := [some _, some _]) (lsub_same (lsub_same lsub_nil)) ?_
  exact lp22 _ _ _ _ (Nat.lt_succ_self _) (by rfl) (by first | assumption | omega | decide) (by first | assumption | omega | decide) (by rw [uz_s]; decide) (by exact sw0_58) (by exact swT_0)
set_option maxRecDepth 20000 in
theorem zX2_init_f {G : tl_G} {M : zM} {J : zJ}  (hM0 : ∀ a : Nat, 5 ≤ a → ∀ k, M a k = 0) (hJ0 : ∀ a : Nat, 5 ≤ a → ∀ k, J a k = 0) : ZA G yX2_init mX2_init 2 6 1516 kPool [vR 5] Fb5 (F_pool Fb5) M J (qV (fun M' J' => J' = J ∧ pI M' ∧ M' 5 8 = 250 ∧ plo M' (fun _ => False))) := by
  refine ZA_of (L := [_]) (by decide) rfl rfl (Nat.le_of_ble_eq_true rfl) rfl (fun hav => ?_)
  refine Z_aload_n (n := 1) dX2_init_0 rfl rfl ?_
  refine Z_objI (n := 4) dX2_init_1 rfl moX2_3 (by decide) (by decide) (Nat.le_of_ble_eq_true rfl) ?_
  refine Z_aload_n (n := 5) dX2_init_4 rfl rfl ?_
  refine Z_sipush (n := 8) dX2_init_5 rfl (by decide) (by decide) ?_
  refine Z_newI (N := 252) (z := 6) (n := 10) dX2_init_8 rfl rfl (by decide) rfl (fun k => hM0 _ (by decide) k) (fun k => hJ0 _ (by decide) k) (fun _ => rfl) (by decide) (by decide) ?_
  refine Z_putA (n := 13) dX2_init_10 rfl ffX2_11 (fun _ => rfl) rfl ?_
  refine Z_aload_n (n := 14) dX2_init_13 rfl rfl ?_
  refine Z_sipush (n := 17) dX2_init_14 rfl (by decide) (by decide) ?_
  refine Z_newI (N := 252) (z := 7) (n := 19) dX2_init_17 rfl rfl (by decide) rfl (fun k => hM0 _ (by decide) k) (fun k => hJ0 _ (by decide) k) (fun _ => rfl) (by decide) (by decide) ?_
  refine Z_putA (n := 22) dX2_init_19 rfl ffX2_15 (fun _ => rfl) rfl ?_
  refine Z_aload_n (n := 23) dX2_init_22 rfl rfl ?_
  refine Z_sipush (n := 26) dX2_init_23 rfl (by decide) (by decide) ?_
  refine Z_newI (N := 252) (z := 8) (n := 28) dX2_init_26 rfl rfl (by decide) rfl (fun k => hM0 _ (by decide) k) (fun k => hJ0 _ (by decide) k) (fun _ => rfl) (by decide) (by decide) ?_
  refine Z_putA (n := 31) dX2_init_28 rfl ffX2_18 (fun _ => rfl) rfl ?_
  refine Z_aload_n (n := 32) dX2_init_31 rfl rfl ?_
  refine Z_sipush (n := 35) dX2_init_32 rfl (by decide) (by decide) ?_
  refine Z_newI (N := 252) (z := 9) (n := 37) dX2_init_35 rfl rfl (by decide) rfl (fun k => hM0 _ (by decide) k) (fun k => hJ0 _ (by decide) k) (fun _ => rfl) (by decide) (by decide) ?_
  refine Z_putA (n := 40) dX2_init_37 rfl ffX2_21 (fun _ => rfl) rfl ?_
  refine Z_aload_n (n := 41) dX2_init_40 rfl rfl ?_
  refine Z_sipush (n := 44) dX2_init_41 rfl (by decide) (by decide) ?_
  refine Z_newI (N := 252) (z := 10) (n := 46) dX2_init_44 rfl rfl (by decide) rfl (fun k => hM0 _ (by decide) k) (fun k => hJ0 _ (by decide) k) (fun _ => rfl) (by decide) (by decide) ?_
  refine Z_putA (n := 49) dX2_init_46 rfl ffX2_24 (fun _ => rfl) rfl ?_
  refine Z_aload_n (n := 50) dX2_init_49 rfl rfl ?_
  refine Z_sipush (n := 53) dX2_init_50 rfl (by decide) (by decide) ?_
  refine Z_newI (N := 256) (z := 11) (n := 55) dX2_init_53 rfl rfl (by decide) rfl (fun k => hM0 _ (by decide) k) (fun k => hJ0 _ (by decide) k) (fun _ => rfl) (by decide) (by decide) ?_
  refine Z_putA (n := 58) dX2_init_55 rfl ffX2_27 (fun _ => rfl) rfl ?_
  refine Z_aload_n (n := 59) dX2_init_58 rfl rfl ?_
  refine Z_iconst (n := 60) dX2_init_59 rfl (by decide) ?_
  refine Z_putI (n := 63) (ki := 6) dX2_init_60 rfl ffX2_30 rfl (by decide) rfl rfl (by first | assumption | omega | decide) (by first | assumption | omega | decide) (by decide) ?_
  refine Z_aload_n (n := 64) dX2_init_63 rfl rfl ?_
  refine Z_iconst (n := 65) dX2_init_64 rfl (by decide) ?_
  refine Z_putI (n := 68) (ki := 7) dX2_init_65 rfl ffX2_34 rfl (by decide) rfl rfl (by first | assumption | omega | decide) (by first | assumption | omega | decide) (by decide) ?_
  refine Z_aload_n (n := 69) dX2_init_68 rfl rfl ?_
  refine Z_sipush (n := 72) dX2_init_69 rfl (by decide) (by decide) ?_
  refine Z_putI (n := 75) (ki := 8) dX2_init_72 rfl ffX2_37 rfl (by decide) rfl rfl (by first | assumption | omega | decide) (by first | assumption | omega | decide) (by decide) ?_
  refine Z_aload_n (n := 76) dX2_init_75 rfl rfl ?_
  refine Z_getA (n := 79) dX2_init_76 rfl ffX2_11 rfl rfl ?_
  refine Z_iconst (n := 80) dX2_init_79 rfl (by decide) ?_
  refine Z_bipush (n := 82) dX2_init_80 rfl (by decide) (by decide) ?_
  refine Z_iast (n := 83) dX2_init_82 rfl rfl rfl (by first | decide | assumption) (by omega) (by omega) (by first | assumption | omega | decide) (by first | assumption | omega | decide) (by decide) ?_
  refine Z_aload_n (n := 84) dX2_init_83 rfl rfl ?_
  refine Z_getA (n := 87) dX2_init_84 rfl ffX2_11 rfl rfl ?_
  refine Z_iconst (n := 88) dX2_init_87 rfl (by decide) ?_
  refine Z_bipush (n := 90) dX2_init_88 rfl (by decide) (by decide) ?_
  refine Z_iast (n := 91) dX2_init_90 rfl rfl rfl (by first | decide | assumption) (by omega) (by omega) (by first | assumption | omega | decide) (by first | assumption | omega | decide) (by decide) ?_
  refine Z_aload_n (n := 92) dX2_init_91 rfl rfl ?_
  refine Z_nm (fun M91 e91 => ?_)
  have a60 : M91 6 0 = 8 := by rw [e91, uz_n (by decide), uz_s]
  have a61 : M91 6 1 = 8 := by rw [e91, uz_s]
  have a58 : M91 5 8 = 250 := by rw [e91, uz_oo (by decide), uz_oo (by decide), uz_s]
  have a9 : ∀ n : Int, M91 9 n = 0 := fun n => by rw [e91]; simp only [uz_oo (show (9 : Nat) ≠ 5 by decide), uz_oo (show (9 : Nat) ≠ 6 by decide)]; exact hM0 9 (by decide) n
  clear e91
  have hp0 : pst M91 (fun _ => False) := ⟨⟨a60, a61⟩, fun n q => q.elim, fun n m q => q.elim⟩
  have hc0 : ∀ n : Int, mC (M91 9) n → (fun _ : Int => False) n ∧ okN (mC (M91 9)) (M91 7 n) ∧ okN (mC (M91 9)) (M91 8 n) := fun n q => absurd (a9 n) q.2
  refine Z_callVv (n := 95) [] _ dX2_init_92 rfl cwX2_40 rfl rfl rfl (Nat.le_of_ble_eq_true rfl) (by refine ⟨?_, ?_, ?_, ?_⟩ <;> exact Nat.le_of_ble_eq_true rfl) (fun a h => by unfold kPool at h; unfold kSweep; omega) (zX2_sweep_h  (by exact ⟨rfl, ⟨rfl, rfl, rfl, rfl, rfl⟩, rfl, rfl, rfl, rfl, rfl⟩) (by exact hp0) (by exact hc0)) ?_
  intro M92 J92 f92 q92
  obtain ⟨e92_1, lm92, po92⟩ := q92
  replace e92_1 := e92_1.symm; subst e92_1
  refine Z_vret dX2_init_95 rfl ?_
  have pn := plo_no po92 (fun n _ _ => a9 n)
  exact ⟨rfl, plo_pI pn, lm92.trans a58, pn⟩
set_option maxRecDepth 20000 in
theorem zX3_init_f {G : tl_G} {M : zM} {J : zJ}  (hM0 : ∀ a : Nat, 0 ≤ a → ∀ k, M a k = 0) (hJ0 : ∀ a : Nat, 0 ≤ a → ∀ k, J a k = 0) : ZA G yX3_init mX3_init 3 30 2277 kBench [vR 0] Fb0 Fb9 M J (qV (fun M' J' => J' = J ∧ cF M' ∧ plo M' (fun _ => False))) := by
  refine ZA_of (L := [_, _]) (by decide) rfl rfl (Nat.le_of_ble_eq_true rfl) rfl (fun hav => ?_)
  refine Z_aload_n (n := 1) dX3_init_0 rfl rfl ?_
  refine Z_objI (n := 4) dX3_init_1 rfl moX3_3 (by decide) (by decide) (Nat.le_of_ble_eq_true rfl) ?_
  refine Z_aload_n (n := 5) dX3_init_4 rfl rfl ?_
  refine Z_iconst (n := 6) dX3_init_5 rfl (by decide) ?_
  refine Z_anew (N := 3) (z := 1) (n := 9) dX3_init_6 rfl cl_X3_9 rfl (by decide) rfl (fun k => hM0 _ (by decide) k) (fun k => hJ0 _ (by decide) k) (fun _ => rfl) (by decide) (by decide) ?_
  refine Z_putA (n := 12) dX3_init_9 rfl ffX3_11 (fun _ => rfl) rfl ?_
  refine Z_aload_n (n := 13) dX3_init_12 rfl rfl ?_
  refine Z_new (z := 2) (n := 16) dX3_init_13 rfl cnX3_15 rfl (fun k => hM0 _ (by decide) k) (fun k => hJ0 _ (by decide) k) (fun _ => rfl) (by decide) (by decide) ?_
  refine Z_dup (n := 17) dX3_init_16 rfl rfl ?_
  refine Z_callI (n := 20) dX3_init_17 rfl cwX3_17 (Nat.le_of_ble_eq_true rfl) (by refine ⟨?_, ?_, ?_, ?_⟩ <;> exact Nat.le_of_ble_eq_true rfl) (fun a h => by unfold kBench at h; unfold kOrd; omega) (zX1_init (by exact fun a h k => hM0 a (by omega) k) (by exact fun a h k => hJ0 a (by omega) k)) ?_
  intro M17 J17 f17 q17
  obtain ⟨e17, o17, v17⟩ := q17
  replace e17 := e17.symm; subst e17
  have z17 : ∀ a : Nat, 5 ≤ a → ∀ k, M17 a k = 0 := fun a h k => (congrFun (f17 a (by unfold kOrd; omega)).1 k).trans (hM0 a (by omega) k)
  refine Z_putO (n := 23) dX3_init_20 rfl ffX3_18 (fun _ => rfl) rfl ?_
  refine Z_aload_n (n := 24) dX3_init_23 rfl rfl ?_
  refine Z_new (z := 5) (n := 27) dX3_init_24 rfl cnX3_22 rfl (fun k => z17 _ (by decide) k) (fun k => hJ0 _ (by decide) k) (fun _ => rfl) (by decide) (by decide) ?_
  refine Z_dup (n := 28) dX3_init_27 rfl rfl ?_
  refine Z_callI (n := 31) dX3_init_28 rfl cwX3_24 (Nat.le_of_ble_eq_true rfl) (by refine ⟨?_, ?_, ?_, ?_⟩ <;> exact Nat.le_of_ble_eq_true rfl) (fun a h => by unfold kBench at h; unfold kPool; omega) (zX2_init_f (by exact fun a h k => z17 a (by omega) k) (by exact fun a h k => hJ0 a (by omega) k)) ?_
  intro M28 J28 f28 q28
  obtain ⟨e28, p28, l28, pn28⟩ := q28
  replace e28 := e28.symm; subst e28
  have z28 : ∀ a : Nat, 12 ≤ a → ∀ k, M28 a k = 0 := fun a h k => (congrFun (f28 a (by unfold kPool; omega)).1 k).trans (z17 a (by omega) k)
  refine Z_putO (n := 34) dX3_init_31 rfl ffX3_25 (fun _ => rfl) rfl ?_
  refine Z_aload_n (n := 35) dX3_init_34 rfl rfl ?_
  refine Z_bipush (n := 37) dX3_init_35 rfl (by decide) (by decide) ?_
  refine Z_newI (N := 12) (z := 12) (n := 39) dX3_init_37 rfl rfl (by decide) rfl (fun k => z28 _ (by decide) k) (fun k => hJ0 _ (by decide) k) (fun _ => rfl) (by decide) (by decide) ?_
  refine Z_putA (n := 42) dX3_init_39 rfl ffX3_29 (fun _ => rfl) rfl ?_
  refine Z_aload_n (n := 43) dX3_init_42 rfl rfl ?_
  refine Z_bipush (n := 45) dX3_init_43 rfl (by decide) (by decide) ?_
  refine Z_newI (N := 40) (z := 13) (n := 47) dX3_init_45 rfl rfl (by decide) rfl (fun k => z28 _ (by decide) k) (fun k => hJ0 _ (by decide) k) (fun _ => rfl) (by decide) (by decide) ?_
  refine Z_putA (n := 50) dX3_init_47 rfl ffX3_33 (fun _ => rfl) rfl ?_
  refine Z_aload_n (n := 51) dX3_init_50 rfl rfl ?_
  refine Z_bipush (n := 53) dX3_init_51 rfl (by decide) (by decide) ?_
  refine Z_newI (N := 40) (z := 14) (n := 55) dX3_init_53 rfl rfl (by decide) rfl (fun k => z28 _ (by decide) k) (fun k => hJ0 _ (by decide) k) (fun _ => rfl) (by decide) (by decide) ?_
  refine Z_putA (n := 58) dX3_init_55 rfl ffX3_36 (fun _ => rfl) rfl ?_
  refine Z_aload_n (n := 59) dX3_init_58 rfl rfl ?_
  refine Z_bipush (n := 61) dX3_init_59 rfl (by decide) (by decide) ?_
  refine Z_newI (N := 8) (z := 15) (n := 63) dX3_init_61 rfl rfl (by decide) rfl (fun k => z28 _ (by decide) k) (fun k => hJ0 _ (by decide) k) (fun _ => rfl) (by decide) (by decide) ?_
  refine Z_putA (n := 66) dX3_init_63 rfl ffX3_39 (fun _ => rfl) rfl ?_
  refine Z_aload_n (n := 67) dX3_init_66 rfl rfl ?_
  refine Z_iconst (n := 68) dX3_init_67 rfl (by decide) ?_
  refine Z_putI (n := 71) (ki := 7) dX3_init_68 rfl ffX3_42 rfl (by decide) rfl rfl (by first | assumption | omega | decide) (by first | assumption | omega | decide) (by decide) ?_
  refine Z_aload_n (n := 72) dX3_init_71 rfl rfl ?_
  refine Z_iconst (n := 73) dX3_init_72 rfl (by decide) ?_
  refine Z_putI (n := 76) (ki := 8) dX3_init_73 rfl ffX3_46 rfl (by decide) rfl rfl (by first | assumption | omega | decide) (by first | assumption | omega | decide) (by decide) ?_
  refine Z_aload_n (n := 77) dX3_init_76 rfl rfl ?_
  refine Z_bipush (n := 79) dX3_init_77 rfl (by decide) (by decide) ?_
  refine Z_putI (n := 82) (ki := 9) dX3_init_79 rfl ffX3_49 rfl (by decide) rfl rfl (by first | assumption | omega | decide) (by first | assumption | omega | decide) (by decide) ?_
  refine Z_aload_n (n := 83) dX3_init_82 rfl rfl ?_
  refine Z_bipush (n := 85) dX3_init_83 rfl (by decide) (by decide) ?_
  refine Z_putI (n := 88) (ki := 10) dX3_init_85 rfl ffX3_52 rfl (by decide) rfl rfl (by first | assumption | omega | decide) (by first | assumption | omega | decide) (by decide) ?_
  refine Z_iconst (n := 89) dX3_init_88 rfl (by decide) ?_
  refine Z_istore_n (L' := [_, _]) (n := 90) dX3_init_89 rfl (by decide) rfl rfl ?_
  refine Z_iload_n (n := 91) dX3_init_90 rfl rfl ?_
  refine Z_iconst (n := 92) dX3_init_91 rfl (by decide) ?_
  refine Z_icmp_ge (n := 95) (t := 114) dX3_init_92 rfl (by decide) (fun c92 => ?_) (fun c92 => ?_)
  · omega
  · refine Z_aload_n (n := 96) dX3_init_95 rfl rfl ?_
    refine Z_getA (n := 99) dX3_init_96 rfl ffX3_11 rfl rfl ?_
    refine Z_iload_n (n := 100) dX3_init_99 rfl rfl ?_
    refine Z_new (z := 16) (n := 103) dX3_init_100 rfl cnX3_9 rfl (fun k => z28 _ (by decide) k) (fun k => hJ0 _ (by decide) k) (fun _ => rfl) (by decide) (by decide) ?_
    refine Z_dup (n := 104) dX3_init_103 rfl rfl ?_
    refine Z_callI (n := 107) dX3_init_104 rfl cwX3_55 (Nat.le_of_ble_eq_true rfl) (by refine ⟨?_, ?_, ?_, ?_⟩ <;> exact Nat.le_of_ble_eq_true rfl) (fun a h => by unfold kBench at h; unfold kNw; omega) (zX0_init_16 (by exact fun a h k => (congrFun (show (uz (uz (uz (uz M28 0 7 0) 0 8 0) 0 9 (-9)) 0 10 (-9)) a = M28 a by simp only [uz_o (show a ≠ 0 by omega)]) k).trans (z28 a (by omega) k)) (by exact fun a h k => hJ0 a (by omega) k)) ?_
    intro M104 J104 f104 q104
    obtain ⟨e104, n16⟩ := q104
    replace e104 := e104.symm; subst e104
    have z104 : ∀ a : Nat, 17 ≤ a → ∀ k, M104 a k = 0 := fun a h k => (congrFun (f104 a (by unfold kNw; omega)).1 k).trans ((congrFun (show (uz (uz (uz (uz M28 0 7 0) 0 8 0) 0 9 (-9)) 0 10 (-9)) a = M28 a by simp only [uz_o (show a ≠ 0 by omega)]) k).trans (z28 a (by omega) k))
    refine Z_aast (i := 0) (n := 108) dX3_init_107 rfl rfl rfl rfl (by decide) (by decide) ?_
    refine Z_iinc (L' := [_, _]) (n := 111) dX3_init_108 rfl rfl (by decide) rfl rfl (by omega) rfl ?_
    refine Z_goto (t := 90) dX3_init_111 (by decide) ?_
    refine Z_iload_n (n := 91) dX3_init_90 rfl rfl ?_
    refine Z_iconst (n := 92) dX3_init_91 rfl (by decide) ?_
    refine Z_icmp_ge (n := 95) (t := 114) dX3_init_92 rfl (by decide) (fun c92 => ?_) (fun c92 => ?_)
    · omega
    · refine Z_aload_n (n := 96) dX3_init_95 rfl rfl ?_
      refine Z_getA (n := 99) dX3_init_96 rfl ffX3_11 rfl rfl ?_
      refine Z_iload_n (n := 100) dX3_init_99 rfl rfl ?_
      refine Z_new (z := 21) (n := 103) dX3_init_100 rfl cnX3_9 rfl (fun k => z104 _ (by decide) k) (fun k => hJ0 _ (by decide) k) (fun _ => rfl) (by decide) (by decide) ?_
      refine Z_dup (n := 104) dX3_init_103 rfl rfl ?_
      refine Z_callI (n := 107) dX3_init_104 rfl cwX3_55 (Nat.le_of_ble_eq_true rfl) (by refine ⟨?_, ?_, ?_, ?_⟩ <;> exact Nat.le_of_ble_eq_true rfl) (fun a h => by unfold kBench at h; unfold kNw; omega) (zX0_init_21 (by exact fun a h k => z104 a (by omega) k) (by exact fun a h k => hJ0 a (by omega) k)) ?_
      intro M104_1 J104_1 f104_1 q104_1
      obtain ⟨e104b, n21⟩ := q104_1
      replace e104b := e104b.symm; subst e104b
      have z104b : ∀ a : Nat, 22 ≤ a → ∀ k, M104_1 a k = 0 := fun a h k => (congrFun (f104_1 a (by unfold kNw; omega)).1 k).trans (z104 a (by omega) k)
      refine Z_aast (i := 1) (n := 108) dX3_init_107 rfl rfl rfl rfl (by decide) (by decide) ?_
      refine Z_iinc (L' := [_, _]) (n := 111) dX3_init_108 rfl rfl (by decide) rfl rfl (by omega) rfl ?_
      refine Z_goto (t := 90) dX3_init_111 (by decide) ?_
      refine Z_iload_n (n := 91) dX3_init_90 rfl rfl ?_
      refine Z_iconst (n := 92) dX3_init_91 rfl (by decide) ?_
      refine Z_icmp_ge (n := 95) (t := 114) dX3_init_92 rfl (by decide) (fun c92 => ?_) (fun c92 => ?_)
      · omega
      · refine Z_aload_n (n := 96) dX3_init_95 rfl rfl ?_
        refine Z_getA (n := 99) dX3_init_96 rfl ffX3_11 rfl rfl ?_
        refine Z_iload_n (n := 100) dX3_init_99 rfl rfl ?_
        refine Z_new (z := 26) (n := 103) dX3_init_100 rfl cnX3_9 rfl (fun k => z104b _ (by decide) k) (fun k => hJ0 _ (by decide) k) (fun _ => rfl) (by decide) (by decide) ?_
        refine Z_dup (n := 104) dX3_init_103 rfl rfl ?_
        refine Z_callI (n := 107) dX3_init_104 rfl cwX3_55 (Nat.le_of_ble_eq_true rfl) (by refine ⟨?_, ?_, ?_, ?_⟩ <;> exact Nat.le_of_ble_eq_true rfl) (fun a h => by unfold kBench at h; unfold kNw; omega) (zX0_init_26 (by exact fun a h k => z104b a (by omega) k) (by exact fun a h k => hJ0 a (by omega) k)) ?_
        intro M104_2 J104_2 f104_2 q104_2
        obtain ⟨e104c, n26⟩ := q104_2
        replace e104c := e104c.symm; subst e104c
        refine Z_aast (i := 2) (n := 108) dX3_init_107 rfl rfl rfl rfl (by decide) (by decide) ?_
        refine Z_iinc (L' := [_, _]) (n := 111) dX3_init_108 rfl rfl (by decide) rfl rfl (by omega) rfl ?_
        refine Z_goto (t := 90) dX3_init_111 (by decide) ?_
        refine Z_iload_n (n := 91) dX3_init_90 rfl rfl ?_
        refine Z_iconst (n := 92) dX3_init_91 rfl (by decide) ?_
        refine Z_icmp_ge (n := 95) (t := 114) dX3_init_92 rfl (by decide) (fun c92 => ?_) (fun c92 => ?_)
        · refine Z_aload_n (n := 115) dX3_init_114 rfl rfl ?_
          refine Z_getA (n := 118) dX3_init_115 rfl ffX3_29 rfl rfl ?_
          refine Z_iconst (n := 119) dX3_init_118 rfl (by decide) ?_
          refine Z_callSv (n := 122) [_, _] _ dX3_init_119 rfl cwX3_56 rfl rfl (Nat.le_of_ble_eq_true rfl) (by refine ⟨?_, ?_, ?_, ?_⟩ <;> exact Nat.le_of_ble_eq_true rfl) (fun _ h => h) (zJ7_fill_53178  (by rfl) (by decide) (by exact fun _ => rfl) (by decide) (by decide) (by decide)) ?_
          intro M119 J119 f119 q119
          obtain ⟨e119_1, e119_2⟩ := q119
          replace e119_1 := e119_1.symm; subst e119_1
          replace e119_2 := e119_2.symm; subst e119_2
          refine Z_aload_n (n := 123) dX3_init_122 rfl rfl ?_
          refine Z_getA (n := 126) dX3_init_123 rfl ffX3_33 rfl rfl ?_
          refine Z_iconst (n := 127) dX3_init_126 rfl (by decide) ?_
          refine Z_callSv (n := 130) [_, _] _ dX3_init_127 rfl cwX3_56 rfl rfl (Nat.le_of_ble_eq_true rfl) (by refine ⟨?_, ?_, ?_, ?_⟩ <;> exact Nat.le_of_ble_eq_true rfl) (fun _ h => h) (zJ7_fill_53178  (by rfl) (by decide) (by exact fun _ => rfl) (by decide) (by decide) (by decide)) ?_
          intro M127 J127 f127 q127
          obtain ⟨e127_1, e127_2⟩ := q127
          replace e127_1 := e127_1.symm; subst e127_1
          replace e127_2 := e127_2.symm; subst e127_2
          refine Z_vret dX3_init_130 rfl ?_
          have hN : ∀ a : Nat, a ≠ 16 → a ≠ 21 → a ≠ 26 → a ≠ 0 → M104_2 a = M28 a := fun a h1 h2 h3 h4 => by
            rw [(f104_2 a h3).1, (f104_1 a h2).1, (f104 a h1).1]
            simp only [uz_o h4]
          have h0 : M104_2 0 = uz (uz (uz (uz M28 0 7 0) 0 8 0) 0 9 (-9)) 0 10 (-9) 0 := by rw [(f104_2 0 (by decide)).1, (f104_1 0 (by decide)).1, (f104 0 (by decide)).1]
          have hq : ∀ a : Nat, a ≠ 12 → a ≠ 13 → fillz (fillz M104_2 12 12 (-1)) 13 40 (-1) a = M104_2 a := fun a h1 h2 => by rw [fillz_o h2, fillz_o h1]
          have pz : plo (fillz (fillz M104_2 12 12 (-1)) 13 40 (-1)) (fun _ => False) := plo_cg ((hq 5 (by decide) (by decide)).trans (hN 5 (by decide) (by decide) (by decide) (by decide))) ((hq 6 (by decide) (by decide)).trans (hN 6 (by decide) (by decide) (by decide) (by decide))) ((hq 7 (by decide) (by decide)).trans (hN 7 (by decide) (by decide) (by decide) (by decide))) ((hq 8 (by decide) (by decide)).trans (hN 8 (by decide) (by decide) (by decide) (by decide))) ((hq 10 (by decide) (by decide)).trans (hN 10 (by decide) (by decide) (by decide) (by decide))) ((hq 11 (by decide) (by decide)).trans (hN 11 (by decide) (by decide) (by decide) (by decide))) pn28
          refine ⟨rfl, ?_, pz⟩
          refine cF_mk (N := M104_2) (fun a h1 h2 => by rw [fillz_o h2, fillz_o h1]) (fun h a b => by rw [fillz_o (by decide), fillz_a a (by omega)]) (fun h a b => fillz_a a (by omega)) (pI_fr p28 (hN 5 (by decide) (by decide) (by decide) (by decide)) (hN 6 (by decide) (by decide) (by decide) (by decide)) (hN 10 (by decide) (by decide) (by decide) (by decide)) (hN 11 (by decide) (by decide) (by decide) (by decide))) ?_ (fun w a b => ?_) ?_ ?_ ?_ n26
          · rw [hN 5 (by decide) (by decide) (by decide) (by decide)]; exact l28
          · rw [hN 3 (by decide) (by decide) (by decide) (by decide), hN 4 (by decide) (by decide) (by decide) (by decide), (f28 3 (by decide)).1, (f28 4 (by decide)).1]; exact v17 w a b
          · rw [h0]; exact ⟨rfl, rfl, rfl, rfl⟩
          · rw [(f104_2 16 (by decide)).1, (f104_1 16 (by decide)).1]; exact n16
          · rw [(f104_2 21 (by decide)).1]; exact n21
        · omega
set_option maxRecDepth 20000 in
theorem zX3_gives_k {G : tl_G} {M : zM} {J : zJ} {net o a : Int} (hc : cI M) : ZN G yX3_gives mX3_gives 3 kGv [vR 0, vI net, vI o, vI a] F1 M J (qI (fun x M' J' => J' = J)) := by
  refine ZN_of (L := [_, _, _, _]) (by decide) rfl rfl (Nat.le_of_ble_eq_true rfl) rfl (fun hav => ?_)
  refine Z_iload_n (n := 1) dX3_gives_0 rfl rfl ?_
  refine Z_callSi (n := 4) [_] _ dX3_gives_1 rfl cwX3_62 rfl rfl (Nat.le_of_ble_eq_true rfl) (by refine ⟨?_, ?_, ?_, ?_⟩ <;> exact Nat.le_of_ble_eq_true rfl) (fun _ _ => trivial) (zX3_isNet  ) ?_
  intro x1 M1 J1 z1 f1 q1
  obtain ⟨e1_1, e1_2, h1⟩ := q1
  replace e1_1 := e1_1.symm; subst e1_1
  replace e1_2 := e1_2.symm; subst e1_2
  refine Z_if_eq (n := 7) (t := 20) dX3_gives_4 rfl (by decide) (fun c4 => ?_) (fun c4 => ?_)
  · refine Z_iconst (n := 21) dX3_gives_20 rfl (by decide) ?_
    refine Z_iret dX3_gives_21 rfl ?_
    exact rfl
  · refine Z_aload_n (n := 8) dX3_gives_7 rfl rfl ?_
    refine Z_getA (n := 11) dX3_gives_8 rfl ffX3_11 (by first | rfl | exact nS0 (nA_at (by omega) (by omega))) (by first | rfl | exact nS0 (nA_at (by omega) (by omega))) ?_
    refine Z_iload_n (n := 12) dX3_gives_11 rfl rfl ?_
    refine Z_aald (n := 13) dX3_gives_12 rfl (by first | rfl | exact nS0 (nA_at (by omega) (by omega))) (by decide) (by omega) (by omega) (nA_P (by omega) (by omega)) ?_
    refine Z_iload_n (n := 14) dX3_gives_13 rfl rfl ?_
    refine Z_callVi (n := 17) [_] _ dX3_gives_14 rfl cwX3_88 rfl rfl (by first | rfl | exact nS0 (nA_at (by omega) (by omega))) (Nat.le_of_ble_eq_true rfl) (by refine ⟨?_, ?_, ?_, ?_⟩ <;> exact Nat.le_of_ble_eq_true rfl) (fun _ _ => trivial) (zX0_hasOutput  (by exact nA_at (by omega) (by omega))) ?_
    intro x14 M14 J14 z14 f14 q14
    obtain ⟨e14_1, e14_2, h14⟩ := q14
    replace e14_1 := e14_1.symm; subst e14_1
    replace e14_2 := e14_2.symm; subst e14_2
    refine Z_if_ne (n := 20) (t := 22) dX3_gives_17 rfl (by decide) (fun c17 => ?_) (fun c17 => ?_)
    · refine Z_iload_n (n := 23) dX3_gives_22 rfl rfl ?_
      refine Z_callSi (n := 26) [_] _ dX3_gives_23 rfl cwX3_91 rfl rfl (Nat.le_of_ble_eq_true rfl) (by refine ⟨?_, ?_, ?_, ?_⟩ <;> exact Nat.le_of_ble_eq_true rfl) (fun _ _ => trivial) (zX3_isAssignment  ) ?_
      intro x23 M23 J23 z23 f23 q23
      obtain ⟨e23_1, e23_2, h23⟩ := q23
      replace e23_1 := e23_1.symm; subst e23_1
      replace e23_2 := e23_2.symm; subst e23_2
      refine Z_if_ne (n := 29) (t := 32) dX3_gives_26 rfl (by decide) (fun c26 => ?_) (fun c26 => ?_)
      · refine Z_aload_n (n := 33) dX3_gives_32 rfl rfl ?_
        refine Z_getA (n := 36) dX3_gives_33 rfl ffX3_11 (by first | rfl | exact nS0 (nA_at (by omega) (by omega))) (by first | rfl | exact nS0 (nA_at (by omega) (by omega))) ?_
        refine Z_iload_n (n := 37) dX3_gives_36 rfl rfl ?_
        refine Z_aald (n := 38) dX3_gives_37 rfl (by first | rfl | exact nS0 (nA_at (by omega) (by omega))) (by decide) (by omega) (by omega) (nA_P (by omega) (by omega)) ?_
        refine Z_iload_n (n := 39) dX3_gives_38 rfl rfl ?_
        refine Z_iload_n (n := 40) dX3_gives_39 rfl rfl ?_
        refine Z_callVi (n := 43) [_, _] _ dX3_gives_40 rfl cwX3_94 rfl rfl (by first | rfl | exact nS0 (nA_at (by omega) (by omega))) (Nat.le_of_ble_eq_true rfl) (by refine ⟨?_, ?_, ?_, ?_⟩ <;> exact Nat.le_of_ble_eq_true rfl) (fun a h => by unfold kGv at h; unfold kOf nA; omega) (zX0_outputValue  (by exact nA_at (by omega) (by omega)) (by exact cI_net hc (nA_at (by omega) (by omega))) (by omega) (by omega)) ?_
        intro x40 M40 J40 z40 f40 q40
        obtain ⟨e40_1, h40⟩ := q40
        replace e40_1 := e40_1.symm; subst e40_1
        refine Z_iret dX3_gives_43 rfl ?_
        exact rfl
      · refine Z_bipush (n := 31) dX3_gives_29 rfl (by decide) (by decide) ?_
        refine Z_iret dX3_gives_31 rfl ?_
        exact rfl
    · refine Z_iconst (n := 21) dX3_gives_20 rfl (by decide) ?_
      refine Z_iret dX3_gives_21 rfl ?_
      exact rfl
set_option maxRecDepth 20000 in
theorem zX3_room_h {G : tl_G} {M : zM} {J : zJ} {n : Int} (hc : cI M) (hb : CB M) : ZN G yX3_room mX3_room 12 kColl [vR 0, vI n] F1 M J (qI (fun x M' J' => J' = J ∧ cI M' ∧ (((n < 0 ∨ 250 < n) ∧ x = -2 ∧ M' = M) ∨ (0 ≤ n ∧ n ≤ 250 ∧ rmQ M n x M' ∧ hkr M M')))) := by
  refine ZN_of (L := [_, _]) (by decide) rfl rfl (Nat.le_of_ble_eq_true rfl) rfl (fun hav => ?_)
  refine Z_iload_n (n := 1) dX3_room_0 rfl rfl ?_
  refine Z_if_lt (n := 4) (t := 11) dX3_room_1 rfl (by decide) (fun c1 => ?_) (fun c1 => ?_)
  · refine Z_bipush (n := 13) dX3_room_11 rfl (by decide) (by decide) ?_
    refine Z_iret dX3_room_13 rfl ?_
    exact ⟨rfl, hc, Or.inl ⟨by omega, rfl, rfl⟩⟩
  · refine Z_iload_n (n := 5) dX3_room_4 rfl rfl ?_
    refine Z_sipush (n := 8) dX3_room_5 rfl (by decide) (by decide) ?_
    refine Z_icmp_le (n := 11) (t := 14) dX3_room_8 rfl (by decide) (fun c8 => ?_) (fun c8 => ?_)
    · refine Z_aload_n (n := 15) dX3_room_14 rfl rfl ?_
      refine Z_callVi (n := 18) [] _ dX3_room_15 rfl cwX3_117 rfl rfl (by first | rfl | exact nS0 (nA_at (by omega) (by omega))) (Nat.le_of_ble_eq_true rfl) (by refine ⟨?_, ?_, ?_, ?_⟩ <;> exact Nat.le_of_ble_eq_true rfl) (fun _ h => h) (zX3_inUse_f  (by exact hb)) ?_
      intro x15 M15 J15 z15 f15 q15
      obtain ⟨e15_1, pi15, b15, cn15, hq15⟩ := q15
      replace e15_1 := e15_1.symm; subst e15_1
      refine Z_iload_n (n := 19) dX3_room_18 rfl rfl ?_
      refine Z_icmp_le (n := 22) (t := 25) dX3_room_19 rfl (by decide) (fun c19 => ?_) (fun c19 => ?_)
      · refine Z_aload_n (n := 26) dX3_room_25 rfl rfl ?_
        refine Z_getO (n := 29) dX3_room_26 rfl ffX3_25 (by first | rfl | exact nS0 (nA_at (by omega) (by omega))) (by first | rfl | exact nS0 (nA_at (by omega) (by omega))) ?_
        refine Z_iload_n (n := 30) dX3_room_29 rfl rfl ?_
        refine Z_callVi (n := 33) [_] _ dX3_room_30 rfl cwX3_120 rfl rfl (by first | rfl | exact nS0 (nA_at (by omega) (by omega))) (Nat.le_of_ble_eq_true rfl) (by refine ⟨?_, ?_, ?_, ?_⟩ <;> exact Nat.le_of_ble_eq_true rfl) (fun _ h => h) (zX2_changeLimit  (by omega) (by omega) (by decide)) ?_
        intro x30 M30 J30 z30 f30 q30
        obtain ⟨e30_1, h30, e30_2⟩ := q30
        replace e30_1 := e30_1.symm; subst e30_1
        replace e30_2 := e30_2.symm; subst e30_2
        refine Z_fr (fun frR => ?_)
        refine Z_iret dX3_room_33 rfl ?_
        obtain ⟨⟨⟨S', h1', h2'⟩, hno', ng'⟩, k12, kd⟩ := hq15
        have hrt : rt (uz M15 5 8 n) = rt M15 := rt_cg (uz_o (by decide)) (uz_o (by decide)) (uz_o (by decide)) (by rw [uz_oo (by decide)])
        have hl : LBc (uz M15 5 8 n) = LBc M15 := LBc_cg (uz_o (by decide)) (uz_o (by decide)) (uz_o (by decide)) hrt
        have hrt0 : rt M15 = rt M := rt_cg k12 (f15 13 (by decide)).1 (f15 15 (by decide)).1 (congrFun (f15 0 (by decide)).1 7)
        have hl0 : LBc M15 = LBc M := LBc_cg (f15 6 (by decide)).1 (f15 7 (by decide)).1 (f15 8 (by decide)).1 hrt0
        have hno2 : ¬ over (LBc (uz M15 5 8 n)) (uz M15 5 8 n 5 8) := by
          rw [hl, hl0, uz_s]
          intro ho
          have := cnt_over (fun _ q => q) cn15 ho
          omega
        exact ⟨rfl, cI_mk hc (fun a ha => frR a (by unfold kPub at ha; unfold kColl; omega)) (plo_pI (plo_58 h1')) (ordOK_fr hc.2.1 (by rw [uz_o (by decide)]; exact (f15 4 (by decide)).1)), Or.inr ⟨by omega, by omega, ⟨x15, cn15, Or.inr ⟨by omega, h30.trans b15, uz_s⟩⟩, ⟨⟨S', plo_58 h1', fun z hz => h2' z (by rw [← hrt]; exact hz)⟩, hno2, by rw [uz_o (by decide)]; exact ng'.1, by rw [uz_oo (by decide)]; exact ng'.2⟩, (uz_o (by decide)).trans k12, (den_cg (uz_o (by decide)) (uz_o (by decide)) (uz_o (by decide))).trans kd⟩⟩
      · refine Z_bipush (n := 24) dX3_room_22 rfl (by decide) (by decide) ?_
        refine Z_fr (fun frR => ?_)
        refine Z_iret dX3_room_24 rfl ?_
        exact ⟨rfl, cI_mk hc (fun a ha => frR a (by unfold kPub at ha; unfold kColl; omega)) pi15 (ordOK_fr hc.2.1 (f15 4 (by decide)).1), Or.inr ⟨by omega, by omega, ⟨x15, cn15, Or.inl ⟨by omega, rfl, b15⟩⟩, hq15⟩⟩
    · refine Z_bipush (n := 13) dX3_room_11 rfl (by decide) (by decide) ?_
      refine Z_iret dX3_room_13 rfl ?_
      exact ⟨rfl, hc, Or.inl ⟨by omega, rfl, rfl⟩⟩
end
section
/-! ===== a call on both sides ===== -/
def ctx (M M1 M2 : zM) (J : zJ) : Prop := LSy M J ∧ (∀ a : Nat, 31 ≤ a → M1 a = M a) ∧ ∀ a : Nat, a < 31 → M2 a = M1 a
def simS (M2 : zM) (J2 : zJ) : Prop := CB M2 ∧ M2 5 8 = M2 31 8 ∧ hSy M2 J2
section OPS
variable {M M1 M2 : zM} {J J2 : zJ} {x y : Int}
theorem LS_mk (h : LSy M J) (li : LI M2 J2) (j54 : J2 54 = J 54) (o : oSy M2) (s : simS M2 J2) : LSy M2 J2 := ⟨li, s.1, fun q a b => by rw [j54]; exact h.2.2.1 q a b, o, s.2.1, s.2.2⟩
theorem oSy_fr (h : oSy M) (e3 : M2 3 = M 3) (e4 : M2 4 = M 4) (e38 : M2 38 = M 38) (e39 : M2 39 = M 39) : oSy M2 := by
  unfold oSy
  rw [e3, e4, e38, e39]
  exact h
theorem LS_s (h : LSy M J) : simS M J := ⟨h.2.1, h.2.2.2.2.1, h.2.2.2.2.2⟩
theorem hs_k (hs : hSy M J) (e43 : M1 43 = M 43) (f : Int) : f < 0 ∨ 12 ≤ f ∨ (M 12 f = -1 ∧ M1 43 f = 0) ∨ (¬ M 12 f = -1 ∧ ¬ M1 43 f = 0) := by
  by_cases a : f < 0
  · exact Or.inl a
  · by_cases b : 12 ≤ f
    · exact Or.inr (Or.inl b)
    · have q := (hs f (by omega) (by omega)).1
      rw [e43]
      by_cases c : M 12 f = -1
      · exact Or.inr (Or.inr (Or.inl ⟨c, q.mp c⟩))
      · exact Or.inr (Or.inr (Or.inr ⟨c, fun t => c (q.mpr t)⟩))
theorem cx_k (c : ctx M M1 M2 J) (f : Int) : f < 0 ∨ 12 ≤ f ∨ (M 12 f = -1 ∧ M1 43 f = 0) ∨ (¬ M 12 f = -1 ∧ ¬ M1 43 f = 0) := hs_k c.1.2.2.2.2.2 (c.2.1 43 (by decide)) f
theorem cx_d (c : ctx M M1 M2 J) {f : Int} (f0 : 0 ≤ f) (f1 : f < 12) (h : ¬ M 12 f = -1) : den M (M 12 f) = phi J f := (c.1.2.2.2.2.2 f f0 f1).2.resolve_left h
theorem cx_o (c : ctx M M1 M2 J) {v : Int} (v0 : 0 ≤ v) (v1 : v < 8) : M1 39 v = M 4 v := by
  rw [c.2.1 39 (by decide)]
  exact (c.1.2.2.2.1.1 v v0 v1).2.symm
theorem sim_same (c : ctx M M1 M2 J) (e1 : M1 = M) (e2 : M2 = M1) (e3 : J2 = J) (e : x = y) : x = y ∧ simS M2 J2 := by
  rw [e2, e1, e3]
  exact ⟨e, LS_s c.1⟩
theorem sim_fin {h : Int} {ok ok' : Prop} {F : FN} (c : ctx M M1 M2 J) (hq : finQ M h ok F x M1) (hr : finR M1 J h ok' F y M2 J2) (e : ok ↔ ok') : x = y ∧ simS M2 J2 := fin_sim c.1.2.1 c.1.1.2.1.2.1 c.1.2.2.2.2.2 c.1.2.2.2.2.1 hq c.2.1 hr c.2.2 e
theorem sim_ok {E : Lb → Prop} {F : FN} (c : ctx M M1 M2 J) : okP M E F ↔ okR M1 J E F := ls_ok c.1.2.1 c.1.1.2.1.2.1 c.1.2.2.2.2.2 c.1.2.2.2.2.1 (c.2.1 43 (by decide)) (c.2.1 31 (by decide))
theorem sim_variable {h v : Int} (c : ctx M M1 M2 J) (hc : ((h < 0 ∨ 12 ≤ h) ∧ x = -1 ∧ M1 = M) ∨ (0 ≤ h ∧ h < 12 ∧ (v < 0 ∨ 8 ≤ v) ∧ x = -2 ∧ M1 = M) ∨ (0 ≤ h ∧ h < 12 ∧ 0 ≤ v ∧ v < 8 ∧ finQ M h (okP M E0 (fun r => bz (r (M 4 v)))) (fun r => bz (r (M 4 v))) x M1)) (hr : ((h < 0 ∨ 12 ≤ h) ∧ y = -1 ∧ M2 = M1 ∧ J2 = J) ∨ (0 ≤ h ∧ h < 12 ∧ (v < 0 ∨ 8 ≤ v) ∧ y = -2 ∧ M2 = M1 ∧ J2 = J) ∨ (0 ≤ h ∧ h < 12 ∧ 0 ≤ v ∧ v < 8 ∧ finR M1 J h (okR M1 J E0 (fun r => bz (r (M1 39 v)))) (fun r => bz (r (M1 39 v))) y M2 J2)) : x = y ∧ simS M2 J2 := by
  rcases hc with ⟨a, b, e⟩ | ⟨a1, a2, a3, b, e⟩ | ⟨a1, a2, a3, a4, q⟩
  · rcases hr with ⟨a', b', e', f'⟩ | ⟨a1', a2', a3', -⟩ | ⟨a1', a2', a3', a4', -⟩
    · exact sim_same c e e' f' (b.trans b'.symm)
    · exfalso; omega
    · exfalso; omega
  · rcases hr with ⟨a', -⟩ | ⟨a1', a2', a3', b', e', f'⟩ | ⟨a1', a2', a3', a4', -⟩
    · exfalso; omega
    · exact sim_same c e e' f' (b.trans b'.symm)
    · exfalso; omega
  · rcases hr with ⟨a', -⟩ | ⟨a1', a2', a3', -⟩ | ⟨a1', a2', a3', a4', q'⟩
    · exfalso; omega
    · exfalso; omega
    · rw [cx_o c a3 a4] at q'
      exact sim_fin c q q' (sim_ok c)
theorem sim_combine {h t f g : Int} (c : ctx M M1 M2 J) (hc : ((h < 0 ∨ 12 ≤ h) ∧ x = -1 ∧ M1 = M) ∨ (0 ≤ h ∧ h < 12 ∧ (t ≤ 0 ∨ 9 < t) ∧ x = -2 ∧ M1 = M) ∨ (0 ≤ h ∧ h < 12 ∧ 0 < t ∧ t ≤ 9 ∧ ((3 ≤ t ∧ (f < 0 ∨ 12 ≤ f ∨ M 12 f = -1)) ∨ (3 < t ∧ (g < 0 ∨ 12 ≤ g ∨ M 12 g = -1))) ∧ x = -1 ∧ M1 = M) ∨ (0 ≤ h ∧ h < 12 ∧ 0 < t ∧ t ≤ 9 ∧ ¬ ((3 ≤ t ∧ (f < 0 ∨ 12 ≤ f ∨ M 12 f = -1)) ∨ (3 < t ∧ (g < 0 ∨ 12 ≤ g ∨ M 12 g = -1))) ∧ finQ M h (okP M E0 (fun r => tbl (tabF t) (den M (if t < 3 then 0 else M 12 f) r) (den M (if t ≤ 3 then 0 else M 12 g) r) (den M 0 r))) (fun r => tbl (tabF t) (den M (if t < 3 then 0 else M 12 f) r) (den M (if t ≤ 3 then 0 else M 12 g) r) (den M 0 r)) x M1)) (hr : ((h < 0 ∨ 12 ≤ h) ∧ y = -1 ∧ M2 = M1 ∧ J2 = J) ∨ (0 ≤ h ∧ h < 12 ∧ (t ≤ 0 ∨ 9 < t) ∧ y = -2 ∧ M2 = M1 ∧ J2 = J) ∨ (0 ≤ h ∧ h < 12 ∧ 0 < t ∧ t ≤ 9 ∧ ((3 ≤ t ∧ (f < 0 ∨ 12 ≤ f ∨ M1 43 f = 0)) ∨ (3 < t ∧ (g < 0 ∨ 12 ≤ g ∨ M1 43 g = 0))) ∧ y = -1 ∧ M2 = M1 ∧ J2 = J) ∨ (0 ≤ h ∧ h < 12 ∧ 0 < t ∧ t ≤ 9 ∧ ¬ ((3 ≤ t ∧ (f < 0 ∨ 12 ≤ f ∨ M1 43 f = 0)) ∨ (3 < t ∧ (g < 0 ∨ 12 ≤ g ∨ M1 43 g = 0))) ∧ finR M1 J h (okR M1 J E0 (fun r => tbl (tabF t) (if t < 3 then 0 else phi J f r) (if t ≤ 3 then 0 else phi J g r) 0)) (fun r => tbl (tabF t) (if t < 3 then 0 else phi J f r) (if t ≤ 3 then 0 else phi J g r) 0) y M2 J2)) : x = y ∧ simS M2 J2 := by
  have kf := cx_k c f
  have kg := cx_k c g
  rcases hc with ⟨a, b, e⟩ | ⟨a1, a2, a3, b, e⟩ | ⟨a1, a2, a3, a4, a5, b, e⟩ | ⟨a1, a2, a3, a4, a5, q⟩
  · rcases hr with ⟨a', b', e', f'⟩ | ⟨a1', a2', -⟩ | ⟨a1', a2', -⟩ | ⟨a1', a2', -⟩
    · exact sim_same c e e' f' (b.trans b'.symm)
    all_goals (exfalso; omega)
  · rcases hr with ⟨a', -⟩ | ⟨a1', a2', a3', b', e', f'⟩ | ⟨a1', a2', a3', a4', -⟩ | ⟨a1', a2', a3', a4', -⟩
    · exfalso; omega
    · exact sim_same c e e' f' (b.trans b'.symm)
    all_goals (exfalso; omega)
  · rcases hr with ⟨a', -⟩ | ⟨a1', a2', a3', -⟩ | ⟨a1', a2', a3', a4', a5', b', e', f'⟩ | ⟨a1', a2', a3', a4', a5', -⟩
    · exfalso; omega
    · exfalso; omega
    · exact sim_same c e e' f' (b.trans b'.symm)
    · exfalso; omega
  · rcases hr with ⟨a', -⟩ | ⟨a1', a2', a3', -⟩ | ⟨a1', a2', a3', a4', a5', -⟩ | ⟨a1', a2', a3', a4', a5', q'⟩
    · exfalso; omega
    · exfalso; omega
    · exfalso; omega
    · have e : (fun r => tbl (tabF t) (den M (if t < 3 then 0 else M 12 f) r) (den M (if t ≤ 3 then 0 else M 12 g) r) (den M 0 r)) = (fun r => tbl (tabF t) (if t < 3 then 0 else phi J f r) (if t ≤ 3 then 0 else phi J g r) 0) := by
        funext r
        by_cases c1 : t < 3
        · rw [if_pos c1, if_pos (show t ≤ 3 by omega), if_pos c1, if_pos (show t ≤ 3 by omega), den_0]
        · have hf := cx_d c (f := f) (by omega) (by omega) (by omega)
          by_cases c2 : t ≤ 3
          · rw [if_neg c1, if_pos c2, if_neg c1, if_pos c2, den_0, hf]
          · have hg := cx_d c (f := g) (by omega) (by omega) (by omega)
            rw [if_neg c1, if_neg c2, if_neg c1, if_neg c2, den_0, hf, hg]
      rw [e] at q
      exact sim_fin c q q' (sim_ok c)
theorem sim_choose {h f g k : Int} (c : ctx M M1 M2 J) (hc : ((h < 0 ∨ 12 ≤ h ∨ f < 0 ∨ 12 ≤ f ∨ M 12 f = -1 ∨ g < 0 ∨ 12 ≤ g ∨ M 12 g = -1 ∨ k < 0 ∨ 12 ≤ k ∨ M 12 k = -1) ∧ x = -1 ∧ M1 = M) ∨ (¬ (h < 0 ∨ 12 ≤ h ∨ f < 0 ∨ 12 ≤ f ∨ M 12 f = -1 ∨ g < 0 ∨ 12 ≤ g ∨ M 12 g = -1 ∨ k < 0 ∨ 12 ≤ k ∨ M 12 k = -1) ∧ finQ M h (okP M E0 (fun r => tbl (tabF 10) (den M (M 12 f) r) (den M (M 12 g) r) (den M (M 12 k) r))) (fun r => tbl (tabF 10) (den M (M 12 f) r) (den M (M 12 g) r) (den M (M 12 k) r)) x M1)) (hr : ((h < 0 ∨ 12 ≤ h ∨ f < 0 ∨ 12 ≤ f ∨ M1 43 f = 0 ∨ g < 0 ∨ 12 ≤ g ∨ M1 43 g = 0 ∨ k < 0 ∨ 12 ≤ k ∨ M1 43 k = 0) ∧ y = -1 ∧ M2 = M1 ∧ J2 = J) ∨ (¬ (h < 0 ∨ 12 ≤ h ∨ f < 0 ∨ 12 ≤ f ∨ M1 43 f = 0 ∨ g < 0 ∨ 12 ≤ g ∨ M1 43 g = 0 ∨ k < 0 ∨ 12 ≤ k ∨ M1 43 k = 0) ∧ finR M1 J h (okR M1 J E0 (fun r => tbl (tabF 10) (phi J f r) (phi J g r) (phi J k r))) (fun r => tbl (tabF 10) (phi J f r) (phi J g r) (phi J k r)) y M2 J2)) : x = y ∧ simS M2 J2 := by
  have kf := cx_k c f
  have kg := cx_k c g
  have kk := cx_k c k
  rcases hc with ⟨a, b, e⟩ | ⟨a, q⟩
  · rcases hr with ⟨a', b', e', f'⟩ | ⟨a', -⟩
    · exact sim_same c e e' f' (b.trans b'.symm)
    · exfalso; omega
  · rcases hr with ⟨a', -⟩ | ⟨a', q'⟩
    · exfalso; omega
    · rw [cx_d c (f := f) (by omega) (by omega) (by omega), cx_d c (f := g) (by omega) (by omega) (by omega), cx_d c (f := k) (by omega) (by omega) (by omega)] at q
      exact sim_fin c q q' (sim_ok c)
theorem sim_restrict {h f v z : Int} (c : ctx M M1 M2 J) (hc : ((h < 0 ∨ 12 ≤ h ∨ f < 0 ∨ 12 ≤ f ∨ M 12 f = -1) ∧ x = -1 ∧ M1 = M) ∨ (¬ (h < 0 ∨ 12 ≤ h ∨ f < 0 ∨ 12 ≤ f ∨ M 12 f = -1) ∧ (v < 0 ∨ 8 ≤ v) ∧ x = -2 ∧ M1 = M) ∨ (¬ (h < 0 ∨ 12 ≤ h ∨ f < 0 ∨ 12 ≤ f ∨ M 12 f = -1) ∧ 0 ≤ v ∧ v < 8 ∧ finQ M h (okP M E0 (fun r => den M (M 12 f) (updI r (M 4 v) (if z = 0 then 0 else 1)))) (fun r => den M (M 12 f) (updI r (M 4 v) (if z = 0 then 0 else 1))) x M1)) (hr : ((h < 0 ∨ 12 ≤ h ∨ f < 0 ∨ 12 ≤ f ∨ M1 43 f = 0) ∧ y = -1 ∧ M2 = M1 ∧ J2 = J) ∨ (¬ (h < 0 ∨ 12 ≤ h ∨ f < 0 ∨ 12 ≤ f ∨ M1 43 f = 0) ∧ (v < 0 ∨ 8 ≤ v) ∧ y = -2 ∧ M2 = M1 ∧ J2 = J) ∨ (¬ (h < 0 ∨ 12 ≤ h ∨ f < 0 ∨ 12 ≤ f ∨ M1 43 f = 0) ∧ 0 ≤ v ∧ v < 8 ∧ finR M1 J h (okR M1 J E0 (fun r => phi J f (updI r (M1 39 v) (if z = 0 then 0 else 1)))) (fun r => phi J f (updI r (M1 39 v) (if z = 0 then 0 else 1))) y M2 J2)) : x = y ∧ simS M2 J2 := by
  have kf := cx_k c f
  rcases hc with ⟨a, b, e⟩ | ⟨a, a3, b, e⟩ | ⟨a, a3, a4, q⟩
  · rcases hr with ⟨a', b', e', f'⟩ | ⟨a', -⟩ | ⟨a', -⟩
    · exact sim_same c e e' f' (b.trans b'.symm)
    all_goals (exfalso; omega)
  · rcases hr with ⟨a', -⟩ | ⟨a', a3', b', e', f'⟩ | ⟨a', a3', a4', -⟩
    · exfalso; omega
    · exact sim_same c e e' f' (b.trans b'.symm)
    · exfalso; omega
  · rcases hr with ⟨a', -⟩ | ⟨a', a3', -⟩ | ⟨a', a3', a4', q'⟩
    · exfalso; omega
    · exfalso; omega
    · rw [cx_o c a3 a4] at q'
      rw [cx_d c (f := f) (by omega) (by omega) (by omega)] at q
      exact sim_fin c q q' (sim_ok c)
theorem sim_quantify {h f v z : Int} (c : ctx M M1 M2 J) (hc : ((h < 0 ∨ 12 ≤ h ∨ f < 0 ∨ 12 ≤ f ∨ M 12 f = -1) ∧ x = -1 ∧ M1 = M) ∨ (¬ (h < 0 ∨ 12 ≤ h ∨ f < 0 ∨ 12 ≤ f ∨ M 12 f = -1) ∧ (v < 0 ∨ 8 ≤ v) ∧ x = -2 ∧ M1 = M) ∨ (¬ (h < 0 ∨ 12 ≤ h ∨ f < 0 ∨ 12 ≤ f ∨ M 12 f = -1) ∧ 0 ≤ v ∧ v < 8 ∧ finQ M h (okP M E0 (fun r => den M (M 12 f) (updI r (M 4 v) (if (0 : Int) = 0 then 0 else 1))) ∧ okP M (E1 (fun r => den M (M 12 f) (updI r (M 4 v) (if (0 : Int) = 0 then 0 else 1)))) (fun r => den M (M 12 f) (updI r (M 4 v) (if (1 : Int) = 0 then 0 else 1))) ∧ okP M (E2 (fun r => den M (M 12 f) (updI r (M 4 v) (if (0 : Int) = 0 then 0 else 1))) (fun r => den M (M 12 f) (updI r (M 4 v) (if (1 : Int) = 0 then 0 else 1)))) (fun r => tbl (tabF (if z = 0 then 5 else 4)) ((fun r => den M (M 12 f) (updI r (M 4 v) (if (0 : Int) = 0 then 0 else 1))) r) ((fun r => den M (M 12 f) (updI r (M 4 v) (if (1 : Int) = 0 then 0 else 1))) r) 0)) (fun r => tbl (tabF (if z = 0 then 5 else 4)) ((fun r => den M (M 12 f) (updI r (M 4 v) (if (0 : Int) = 0 then 0 else 1))) r) ((fun r => den M (M 12 f) (updI r (M 4 v) (if (1 : Int) = 0 then 0 else 1))) r) 0) x M1)) (hr : ((h < 0 ∨ 12 ≤ h ∨ f < 0 ∨ 12 ≤ f ∨ M1 43 f = 0) ∧ y = -1 ∧ M2 = M1 ∧ J2 = J) ∨ (¬ (h < 0 ∨ 12 ≤ h ∨ f < 0 ∨ 12 ≤ f ∨ M1 43 f = 0) ∧ (v < 0 ∨ 8 ≤ v) ∧ y = -2 ∧ M2 = M1 ∧ J2 = J) ∨ (¬ (h < 0 ∨ 12 ≤ h ∨ f < 0 ∨ 12 ≤ f ∨ M1 43 f = 0) ∧ 0 ≤ v ∧ v < 8 ∧ finR M1 J h (okR M1 J E0 (fun r => phi J f (updI r (M1 39 v) (if (0 : Int) = 0 then 0 else 1))) ∧ okR M1 J (E1 (fun r => phi J f (updI r (M1 39 v) (if (0 : Int) = 0 then 0 else 1)))) (fun r => phi J f (updI r (M1 39 v) (if (1 : Int) = 0 then 0 else 1))) ∧ okR M1 J (E2 (fun r => phi J f (updI r (M1 39 v) (if (0 : Int) = 0 then 0 else 1))) (fun r => phi J f (updI r (M1 39 v) (if (1 : Int) = 0 then 0 else 1)))) (fun r => tbl (tabF (if z = 0 then 5 else 4)) ((fun r => phi J f (updI r (M1 39 v) (if (0 : Int) = 0 then 0 else 1))) r) ((fun r => phi J f (updI r (M1 39 v) (if (1 : Int) = 0 then 0 else 1))) r) 0)) (fun r => tbl (tabF (if z = 0 then 5 else 4)) ((fun r => phi J f (updI r (M1 39 v) (if (0 : Int) = 0 then 0 else 1))) r) ((fun r => phi J f (updI r (M1 39 v) (if (1 : Int) = 0 then 0 else 1))) r) 0) y M2 J2)) : x = y ∧ simS M2 J2 := by
  have kf := cx_k c f
  rcases hc with ⟨a, b, e⟩ | ⟨a, a3, b, e⟩ | ⟨a, a3, a4, q⟩
  · rcases hr with ⟨a', b', e', f'⟩ | ⟨a', -⟩ | ⟨a', -⟩
    · exact sim_same c e e' f' (b.trans b'.symm)
    all_goals (exfalso; omega)
  · rcases hr with ⟨a', -⟩ | ⟨a', a3', b', e', f'⟩ | ⟨a', a3', a4', -⟩
    · exfalso; omega
    · exact sim_same c e e' f' (b.trans b'.symm)
    · exfalso; omega
  · rcases hr with ⟨a', -⟩ | ⟨a', a3', -⟩ | ⟨a', a3', a4', q'⟩
    · exfalso; omega
    · exfalso; omega
    · rw [cx_o c a3 a4] at q'
      rw [cx_d c (f := f) (by omega) (by omega) (by omega)] at q
      exact sim_fin c q q' (and_congr (sim_ok c) (and_congr (sim_ok c) (sim_ok c)))
theorem sim_compose {h f v g : Int} (c : ctx M M1 M2 J) (hc : ((h < 0 ∨ 12 ≤ h ∨ f < 0 ∨ 12 ≤ f ∨ M 12 f = -1 ∨ g < 0 ∨ 12 ≤ g ∨ M 12 g = -1) ∧ x = -1 ∧ M1 = M) ∨ (¬ (h < 0 ∨ 12 ≤ h ∨ f < 0 ∨ 12 ≤ f ∨ M 12 f = -1 ∨ g < 0 ∨ 12 ≤ g ∨ M 12 g = -1) ∧ (v < 0 ∨ 8 ≤ v) ∧ x = -2 ∧ M1 = M) ∨ (¬ (h < 0 ∨ 12 ≤ h ∨ f < 0 ∨ 12 ≤ f ∨ M 12 f = -1 ∨ g < 0 ∨ 12 ≤ g ∨ M 12 g = -1) ∧ 0 ≤ v ∧ v < 8 ∧ finQ M h (okP M E0 (fun r => den M (M 12 f) (updI r (M 4 v) (if (0 : Int) = 0 then 0 else 1))) ∧ okP M (E1 (fun r => den M (M 12 f) (updI r (M 4 v) (if (0 : Int) = 0 then 0 else 1)))) (fun r => den M (M 12 f) (updI r (M 4 v) (if (1 : Int) = 0 then 0 else 1))) ∧ okP M (E2 (fun r => den M (M 12 f) (updI r (M 4 v) (if (0 : Int) = 0 then 0 else 1))) (fun r => den M (M 12 f) (updI r (M 4 v) (if (1 : Int) = 0 then 0 else 1)))) (fun r => tbl (tabF 10) (den M (M 12 g) r) ((fun r => den M (M 12 f) (updI r (M 4 v) (if (1 : Int) = 0 then 0 else 1))) r) ((fun r => den M (M 12 f) (updI r (M 4 v) (if (0 : Int) = 0 then 0 else 1))) r))) (fun r => tbl (tabF 10) (den M (M 12 g) r) ((fun r => den M (M 12 f) (updI r (M 4 v) (if (1 : Int) = 0 then 0 else 1))) r) ((fun r => den M (M 12 f) (updI r (M 4 v) (if (0 : Int) = 0 then 0 else 1))) r)) x M1)) (hr : ((h < 0 ∨ 12 ≤ h ∨ f < 0 ∨ 12 ≤ f ∨ M1 43 f = 0 ∨ g < 0 ∨ 12 ≤ g ∨ M1 43 g = 0) ∧ y = -1 ∧ M2 = M1 ∧ J2 = J) ∨ (¬ (h < 0 ∨ 12 ≤ h ∨ f < 0 ∨ 12 ≤ f ∨ M1 43 f = 0 ∨ g < 0 ∨ 12 ≤ g ∨ M1 43 g = 0) ∧ (v < 0 ∨ 8 ≤ v) ∧ y = -2 ∧ M2 = M1 ∧ J2 = J) ∨ (¬ (h < 0 ∨ 12 ≤ h ∨ f < 0 ∨ 12 ≤ f ∨ M1 43 f = 0 ∨ g < 0 ∨ 12 ≤ g ∨ M1 43 g = 0) ∧ 0 ≤ v ∧ v < 8 ∧ finR M1 J h (okR M1 J E0 (fun r => phi J f (updI r (M1 39 v) (if (0 : Int) = 0 then 0 else 1))) ∧ okR M1 J (E1 (fun r => phi J f (updI r (M1 39 v) (if (0 : Int) = 0 then 0 else 1)))) (fun r => phi J f (updI r (M1 39 v) (if (1 : Int) = 0 then 0 else 1))) ∧ okR M1 J (E2 (fun r => phi J f (updI r (M1 39 v) (if (0 : Int) = 0 then 0 else 1))) (fun r => phi J f (updI r (M1 39 v) (if (1 : Int) = 0 then 0 else 1)))) (fun r => tbl (tabF 10) (phi J g r) ((fun r => phi J f (updI r (M1 39 v) (if (1 : Int) = 0 then 0 else 1))) r) ((fun r => phi J f (updI r (M1 39 v) (if (0 : Int) = 0 then 0 else 1))) r))) (fun r => tbl (tabF 10) (phi J g r) ((fun r => phi J f (updI r (M1 39 v) (if (1 : Int) = 0 then 0 else 1))) r) ((fun r => phi J f (updI r (M1 39 v) (if (0 : Int) = 0 then 0 else 1))) r)) y M2 J2)) : x = y ∧ simS M2 J2 := by
  have kf := cx_k c f
  have kg := cx_k c g
  rcases hc with ⟨a, b, e⟩ | ⟨a, a3, b, e⟩ | ⟨a, a3, a4, q⟩
  · rcases hr with ⟨a', b', e', f'⟩ | ⟨a', -⟩ | ⟨a', -⟩
    · exact sim_same c e e' f' (b.trans b'.symm)
    all_goals (exfalso; omega)
  · rcases hr with ⟨a', -⟩ | ⟨a', a3', b', e', f'⟩ | ⟨a', a3', a4', -⟩
    · exfalso; omega
    · exact sim_same c e e' f' (b.trans b'.symm)
    · exfalso; omega
  · rcases hr with ⟨a', -⟩ | ⟨a', a3', -⟩ | ⟨a', a3', a4', q'⟩
    · exfalso; omega
    · exfalso; omega
    · rw [cx_o c a3 a4] at q'
      rw [cx_d c (f := f) (by omega) (by omega) (by omega), cx_d c (f := g) (by omega) (by omega) (by omega)] at q
      exact sim_fin c q q' (and_congr (sim_ok c) (and_congr (sim_ok c) (sim_ok c)))
theorem CB_lo (h : CB M1) (fr : ∀ a : Nat, a < 31 → M2 a = M1 a) : CB M2 := CB_cg (by rw [fr 0 (by decide)]) (fr 5 (by decide)) (fr 6 (by decide)) (fr 7 (by decide)) (fr 8 (by decide)) (fr 10 (by decide)) (fr 11 (by decide)) (fr 12 (by decide)) (fr 13 (by decide)) (fr 15 (by decide)) h
theorem den_lo (fr : ∀ a : Nat, a < 31 → M2 a = M1 a) : den M2 = den M1 := den_cg (fr 6 (by decide)) (fr 7 (by decide)) (fr 8 (by decide))
theorem sim_share {h f : Int} (c : ctx M M1 M2 J) (hc : ((h < 0 ∨ 12 ≤ h ∨ f < 0 ∨ 12 ≤ f ∨ M 12 f = -1) ∧ x = -1 ∧ M1 = M) ∨ (¬ (h < 0 ∨ 12 ≤ h ∨ f < 0 ∨ 12 ≤ f ∨ M 12 f = -1) ∧ x = 1 ∧ CB M1 ∧ M1 = uz M 12 h (M 12 f))) (hr : ((h < 0 ∨ 12 ≤ h ∨ f < 0 ∨ 12 ≤ f ∨ M1 43 f = 0) ∧ y = -1 ∧ M2 = M1 ∧ J2 = J) ∨ (¬ (h < 0 ∨ 12 ≤ h ∨ f < 0 ∨ 12 ≤ f ∨ M1 43 f = 0) ∧ y = 1 ∧ M2 31 8 = M1 31 8 ∧ (¬ M2 43 h = 0 ∧ phi J2 h = phi J f) ∧ ∀ j : Int, 0 ≤ j → j < 12 → j ≠ h → (M2 43 j = M1 43 j ∧ phi J2 j = phi J j))) : x = y ∧ simS M2 J2 := by
  have kf := cx_k c f
  rcases hc with ⟨a, b, e⟩ | ⟨a, b, hb, e⟩
  · rcases hr with ⟨a', b', e', f'⟩ | ⟨a', -⟩
    · exact sim_same c e e' f' (b.trans b'.symm)
    · exfalso; omega
  · rcases hr with ⟨a', -⟩ | ⟨a', b', e8, ⟨n1, n2⟩, hj⟩
    · exfalso; omega
    · have hf := cx_d c (f := f) (by omega) (by omega) (by omega)
      have fn : ¬ M 12 f = -1 := by omega
      have hd : den M2 = den M := (den_lo c.2.2).trans (den_cg (by rw [e, uz_o (by decide)]) (by rw [e, uz_o (by decide)]) (by rw [e, uz_o (by decide)]))
      have e12 : M2 12 = updI (M 12) h (M 12 f) := by rw [c.2.2 12 (by decide), e, uz_fn]
      have e5 : M2 5 = M 5 := by rw [c.2.2 5 (by decide), e, uz_o (by decide)]
      have e43 : M1 43 = M 43 := c.2.1 43 (by decide)
      refine ⟨b.trans b'.symm, CB_lo hb c.2.2, by rw [e5, e8, c.2.1 31 (by decide)]; exact c.1.2.2.2.2.1, fun j j0 j1 => ?_⟩
      rw [e12, hd]
      by_cases w : j = h
      · rw [w, updI_s]
        exact ⟨⟨fun t => absurd t fn, fun t => absurd t n1⟩, Or.inr (hf.trans n2.symm)⟩
      · rw [updI_n w, (hj j j0 j1 w).1, (hj j j0 j1 w).2, e43]
        exact c.1.2.2.2.2.2 j j0 j1
theorem sim_drop {h : Int} (c : ctx M M1 M2 J) (hc : ((h < 0 ∨ 12 ≤ h) ∧ x = -1 ∧ M1 = M) ∨ (0 ≤ h ∧ h < 12 ∧ ((M 12 h = -1 ∧ x = 0) ∨ (¬ M 12 h = -1 ∧ x = 1)) ∧ CB M1 ∧ M1 = uz M 12 h (-1))) (hr : ((h < 0 ∨ 12 ≤ h) ∧ y = -1 ∧ M2 = M1 ∧ J2 = J) ∨ (0 ≤ h ∧ h < 12 ∧ ((M1 43 h = 0 ∧ y = 0) ∨ (¬ M1 43 h = 0 ∧ y = 1)) ∧ M2 31 8 = M1 31 8 ∧ M2 43 h = 0 ∧ ∀ j : Int, 0 ≤ j → j < 12 → j ≠ h → (M2 43 j = M1 43 j ∧ phi J2 j = phi J j))) : x = y ∧ simS M2 J2 := by
  have kh := cx_k c h
  rcases hc with ⟨a, b, e⟩ | ⟨a1, a2, b, hb, e⟩
  · rcases hr with ⟨a', b', e', f'⟩ | ⟨a1', a2', -⟩
    · exact sim_same c e e' f' (b.trans b'.symm)
    · exfalso; omega
  · rcases hr with ⟨a', -⟩ | ⟨a1', a2', b', e8, n1, hj⟩
    · exfalso; omega
    · have hd : den M2 = den M := (den_lo c.2.2).trans (den_cg (by rw [e, uz_o (by decide)]) (by rw [e, uz_o (by decide)]) (by rw [e, uz_o (by decide)]))
      have e12 : M2 12 = updI (M 12) h (-1) := by rw [c.2.2 12 (by decide), e, uz_fn]
      have e5 : M2 5 = M 5 := by rw [c.2.2 5 (by decide), e, uz_o (by decide)]
      have e43 : M1 43 = M 43 := c.2.1 43 (by decide)
      refine ⟨by omega, CB_lo hb c.2.2, by rw [e5, e8, c.2.1 31 (by decide)]; exact c.1.2.2.2.2.1, fun j j0 j1 => ?_⟩
      rw [e12, hd]
      by_cases w : j = h
      · rw [w, updI_s]
        exact ⟨⟨fun _ => n1, fun _ => rfl⟩, Or.inl rfl⟩
      · rw [updI_n w, (hj j j0 j1 w).1, (hj j j0 j1 w).2, e43]
        exact c.1.2.2.2.2.2 j j0 j1
/-- as many in use on both sides -/
theorem use_eq (h : LSy M J) (ok : zOK M) {u : Int} (hu : cnt (LBc M) u) : u = M 31 24 := cnt_uniq (fun y => ls_lb h.2.1 h.1.2.1.2.1 h.2.2.2.2.2 y) hu (ref_cnt h.1.2.1.1 ok)
theorem sim_room {n : Int} (ok : zOK M) (c : ctx M M1 M2 J) (hc : ((n < 0 ∨ 250 < n) ∧ x = -2 ∧ M1 = M) ∨ (0 ≤ n ∧ n ≤ 250 ∧ rmQ M n x M1 ∧ hkr M M1)) (hr : ((n < 0 ∨ 250 < n) ∧ y = -2 ∧ M2 = M1) ∨ (0 ≤ n ∧ n ≤ 250 ∧ n < M1 31 24 ∧ y = -3 ∧ M2 = M1) ∨ (0 ≤ n ∧ n ≤ 250 ∧ M1 31 24 ≤ n ∧ y = M1 31 8 ∧ M2 = uz M1 31 8 n)) : x = y ∧ simS M2 J := by
  have e31 : M1 31 = M 31 := c.2.1 31 (by decide)
  have e24 : M1 31 24 = M 31 24 := congrFun e31 24
  have e8 : M1 31 8 = M 31 8 := congrFun e31 8
  have e43 : M1 43 = M 43 := c.2.1 43 (by decide)
  have h58 := c.1.2.2.2.2.1
  rcases hc with ⟨a, b, e⟩ | ⟨a1, a2, ⟨u, hu, hq⟩, ⟨k1, k2, k3⟩⟩
  · rcases hr with ⟨a', b', e'⟩ | ⟨a1', a2', -⟩ | ⟨a1', a2', -⟩
    · exact sim_same c e e' rfl (b.trans b'.symm)
    · exfalso; omega
    · exfalso; omega
  · have hu2 := use_eq c.1 ok hu
    have hy : ∀ N : zM, (∀ a : Nat, a ≠ 31 → N a = M1 a) → hSy N J := fun N o j j0 j1 => by
      rw [o 12 (by decide), o 43 (by decide), den_cg (o 6 (by decide)) (o 7 (by decide)) (o 8 (by decide)), k2, k3, e43]
      exact c.1.2.2.2.2.2 j j0 j1
    rcases hr with ⟨a', -⟩ | ⟨a1', a2', a3', b', e'⟩ | ⟨a1', a2', a3', b', e'⟩
    · exfalso; omega
    · rcases hq with ⟨q1, q2, q3⟩ | ⟨q1, q2, q3⟩
      · refine ⟨q2.trans b'.symm, CB_lo k1 c.2.2, ?_, hy M2 (fun a _ => by rw [e'])⟩
        rw [e', q3, e8]
        exact h58
      · exfalso; omega
    · rcases hq with ⟨q1, q2, q3⟩ | ⟨q1, q2, q3⟩
      · exfalso; omega
      · refine ⟨by omega, CB_lo k1 c.2.2, ?_, hy M2 (fun a ha => by rw [e', uz_o ha])⟩
        rw [e', uz_s, uz_oo (by decide)]
        exact q3
theorem sim_kp (c : ctx M M1 M2 J) (hq : hkp M M1) (hr : eqR M1 J M2 J2) : simS M2 J2 := kp_sim c.1.2.2.2.2.2 c.1.2.2.2.2.1 hq c.2.1 (fun j _ b => hr.1 j b) hr.2.1 hr.2.2 c.2.2
/-- handles and pool are as they were -/
theorem sim_lo (h : LSy M J) (lo : ∀ a : Nat, a < 16 → a ≠ 2 → a ≠ 3 → a ≠ 4 → a ≠ 9 → M2 a = M a) (e43 : M2 43 = M 43) (e8 : M2 31 8 = M 31 8) (j44 : J2 44 = J 44) : simS M2 J2 := by
  have l := fun (a : Nat) (h1 : a < 16) (h2 : a ≠ 2) (h3 : a ≠ 3) (h4 : a ≠ 4) (h5 : a ≠ 9) => lo a h1 h2 h3 h4 h5
  have e5 := l 5 (by decide) (by decide) (by decide) (by decide) (by decide)
  have e6 := l 6 (by decide) (by decide) (by decide) (by decide) (by decide)
  have e7 := l 7 (by decide) (by decide) (by decide) (by decide) (by decide)
  have e8' := l 8 (by decide) (by decide) (by decide) (by decide) (by decide)
  have e12 := l 12 (by decide) (by decide) (by decide) (by decide) (by decide)
  refine ⟨CB_cg (by rw [l 0 (by decide) (by decide) (by decide) (by decide) (by decide)]) e5 e6 e7 e8' (l 10 (by decide) (by decide) (by decide) (by decide) (by decide)) (l 11 (by decide) (by decide) (by decide) (by decide) (by decide)) e12 (l 13 (by decide) (by decide) (by decide) (by decide) (by decide)) (l 15 (by decide) (by decide) (by decide) (by decide) (by decide)) h.2.1, by rw [e5, e8]; exact h.2.2.2.2.1, fun j j0 j1 => ?_⟩
  rw [e12, e43, den_cg e6 e7 e8', phi_cg (J := J) (g := j) (fun k _ _ => by rw [j44])]
  exact h.2.2.2.2.2 j j0 j1
theorem sim_build {h net o : Int} (ok : zOK M) (c : ctx M M1 M2 J) (hc : ((h < 0 ∨ 12 ≤ h ∨ net < 0 ∨ 3 ≤ net ∨ o < 0 ∨ M (nA net) 5 ≤ o) ∧ x = -1 ∧ M1 = M) ∨ (¬ (h < 0 ∨ 12 ≤ h ∨ net < 0 ∨ 3 ≤ net ∨ o < 0 ∨ M (nA net) 5 ≤ o) ∧ bfQ M h (M (nA net + 1)) (fun g c => M (nA net + 2) (3 * g + c)) (M 4) (M (nA net + 3) o) x M1)) (hr : ((h < 0 ∨ 12 ≤ h ∨ net < 0 ∨ 3 ≤ net ∨ o < 0 ∨ M1 33 net ≤ o) ∧ y = -1 ∧ M2 = M1 ∧ J2 = J) ∨ (¬ (h < 0 ∨ 12 ≤ h ∨ net < 0 ∨ 3 ≤ net ∨ o < 0 ∨ M1 33 net ≤ o) ∧ brX M1 J h (fun k => M1 34 (40 * net + k)) (fun k c => M1 35 (3 * (40 * net + k) + c)) (M1 39) (M1 36 (4 * net + o)) y M2 J2)) : x = y ∧ simS M2 J2 := by
  have e33 : M1 33 = M 33 := c.2.1 33 (by decide)
  have n5 : net < 0 ∨ 3 ≤ net ∨ M (nA net) 5 = M1 33 net := by
    by_cases a : net < 0
    · exact Or.inl a
    · by_cases b : 3 ≤ net
      · exact Or.inr (Or.inl b)
      · rw [e33]
        exact Or.inr (Or.inr (c.1.1.2.2 net (by omega) (by omega)).2.1)
  rcases hc with ⟨a, b, e⟩ | ⟨a, L, lS, fq⟩
  · rcases hr with ⟨a', b', e', f'⟩ | ⟨a', -⟩
    · exact sim_same c e e' f' (b.trans b'.symm)
    · exfalso; omega
  · rcases hr with ⟨a', -⟩ | ⟨a', L', lS', fr⟩
    · exfalso; omega
    · obtain ⟨m4, m5, m3, m6⟩ := c.1.1.2.2 net (by omega) (by omega)
      have hN := cI_net c.1.1.1 (nA_at (j := net) (by omega) (by omega))
      have eg : M1 36 (4 * net + o) = M (nA net + 3) o := by
        rw [c.2.1 36 (by decide)]
        exact (m6 o (by omega) (by omega)).symm
      rw [eg] at lS' fr
      have hg := hN.2 o (by omega) (by omega)
      have r32 : 0 ≤ M 32 net ∧ M 32 net ≤ 40 := ok 32 net
      obtain ⟨g, eG⟩ : ∃ g, g = M (nA net + 3) o := ⟨_, rfl⟩
      rw [← eG] at lS' fr lS fq hg
      have hk : ∀ k : Int, 0 ≤ k → k < M 32 net → (fun k => M1 34 (40 * net + k)) k = (M (nA net + 1)) k ∧ ∀ d : Int, 0 ≤ d → d < 3 → (fun k c => M1 35 (3 * (40 * net + k) + c)) k d = (fun g c => M (nA net + 2) (3 * g + c)) k d := fun k k0 k1 => by
        rw [c.2.1 34 (by decide), c.2.1 35 (by decide)]
        exact ⟨(m3 k k0 k1).1.symm, fun d d0 d1 => ((m3 k k0 k1).2 d d0 d1).symm⟩
      have hb : odB (M (nA net + 1)) (fun g c => M (nA net + 2) (3 * g + c)) (M 32 net) := fun k k0 k1 d d0 d1 => (hN.1 k k0 (by omega)).1 d d0 d1
      have hp : ∀ k : Int, 0 ≤ k → k < M 32 net → (M (nA net + 1)) k = 0 → M1 39 ((fun g c => M (nA net + 2) (3 * g + c)) k 0) = M 4 ((fun g c => M (nA net + 2) (3 * g + c)) k 0) := fun k k0 k1 e => by
        have w := (hN.1 k k0 (by omega)).2 e
        show M1 39 (M (nA net + 2) (3 * k + 0)) = M 4 (M (nA net + 2) (3 * k + 0))
        rw [show 3 * k + 0 = 3 * k by omega]
        exact cx_o c w.1 w.2
      have hF := gF_cg (kd := (M (nA net + 1))) (kd' := (fun k => M1 34 (40 * net + k))) (od := (fun g c => M (nA net + 2) (3 * g + c))) (od' := (fun k c => M1 35 (3 * (40 * net + k) + c))) (pl := M 4) (pl' := M1 39) hb hk hp
      have hi : ∀ k z : Int, 0 ≤ k → k ≤ g → (isop (M (nA net + 1)) (fun g c => M (nA net + 2) (3 * g + c)) k z ↔ isop (fun k => M1 34 (40 * net + k)) (fun k c => M1 35 (3 * (40 * net + k) + c)) k z) := fun k z k0 k1 => by
        obtain ⟨w1, w2⟩ := hk k k0 (by omega)
        have w3 := opF_in (M (nA net + 1) k)
        unfold isop
        rw [w1]
        constructor
        · rintro ⟨d, db, de⟩
          exact ⟨d, db, (w2 d db.1 (by omega)).trans de⟩
        · rintro ⟨d, db, de⟩
          exact ⟨d, db, (w2 d db.1 (by omega)).symm.trans de⟩
      have hL := lnS_uniq (by omega) hi lS lS'
      rw [hF g (by omega) (by omega)] at fr
      have eH : ∀ k : Int, k ≤ g → EH E0 (gF (fun k => M1 34 (40 * net + k)) (fun k c => M1 35 (3 * (40 * net + k) + c)) (M1 39)) (hnd L' g k) = EH E0 (gF (M (nA net + 1)) (fun g c => M (nA net + 2) (3 * g + c)) (M 4)) (hnd L g k) := fun k k1 => by
        funext z
        refine propext (or_congr Iff.rfl ⟨fun q => ?_, fun q => ?_⟩)
        · obtain ⟨w, ⟨wb, w1, w2⟩, w3⟩ := q
          rw [hL w wb.1 (by omega)] at w1 w2
          rw [hF w wb.1 (by omega)] at w3
          exact ⟨w, ⟨wb, w1, w2⟩, w3⟩
        · obtain ⟨w, ⟨wb, w1, w2⟩, w3⟩ := q
          rw [← hL w wb.1 (by omega)] at w1 w2
          rw [← hF w wb.1 (by omega)] at w3
          exact ⟨w, ⟨wb, w1, w2⟩, w3⟩
      refine sim_fin c fq fr ⟨fun H k k0 k1 k2 => ?_, fun H k k0 k1 k2 => ?_⟩
      · rw [hL k k0 (by omega)] at k2
        rw [eH k k1, hF k k0 (by omega)]
        exact (sim_ok c).mp (H k k0 k1 k2)
      · rw [← hL k k0 (by omega)] at k2
        have z := H k k0 k1 k2
        rw [eH k k1, hF k k0 (by omega)] at z
        exact (sim_ok c).mpr z
/-- the walk of an order is alike -/
theorem od_eq {net : Int} (ok : zOK M) (h : LSy M J) (fr : ∀ a : Nat, 31 ≤ a → M1 a = M a) (n0 : 0 ≤ net) (n1 : net < 3) : vr (vG (fun k => M1 34 (40 * net + k)) (fun k c => M1 35 (3 * (40 * net + k) + c))) (fun c => M1 36 (4 * net + c)) (M1 33 net).toNat 0 (o0 (M1 38)) = vr (vs (M (nA net + 1)) (fun g c => M (nA net + 2) (3 * g + c)) 40) (M (nA net + 3)) (M (nA net) 5).toNat 0 (o0 (M 3)) := by
  obtain ⟨m4, m5, m3, m6⟩ := h.1.2.2 net n0 n1
  have hN := cI_net h.1.1 (nA_at (j := net) n0 n1)
  have r32 : 0 ≤ M 32 net ∧ M 32 net ≤ 40 := ok 32 net
  have eo : o0 (M1 38) = o0 (M 3) := by
    unfold o0
    rw [fr 38 (by decide), rs_cg (f' := M 38) (f := M 3) (n := 8) (fun j a b => (h.2.2.2.1.1 j a b).1.symm)]
  have hk : ∀ k : Int, 0 ≤ k → k < M 32 net → (fun k => M1 34 (40 * net + k)) k = (M (nA net + 1)) k ∧ ∀ d : Int, 0 ≤ d → d < 3 → (fun k c => M1 35 (3 * (40 * net + k) + c)) k d = (fun g c => M (nA net + 2) (3 * g + c)) k d := fun k k0 k1 => by
    rw [fr 34 (by decide), fr 35 (by decide)]
    exact ⟨(m3 k k0 k1).1.symm, fun d d0 d1 => ((m3 k k0 k1).2 d d0 d1).symm⟩
  have hb : odB (M (nA net + 1)) (fun g c => M (nA net + 2) (3 * g + c)) (M 32 net) := fun k k0 k1 d d0 d1 => (hN.1 k k0 (by omega)).1 d d0 d1
  have e5 : M1 33 net = M (nA net) 5 := by
    rw [fr 33 (by decide)]
    exact m5.symm
  have ho : ∀ i : Int, 0 ≤ i → i < 0 + ((M (nA net) 5).toNat : Int) → (fun c => M1 36 (4 * net + c)) i = M (nA net + 3) i := fun i a b => by
    show M1 36 (4 * net + i) = M (nA net + 3) i
    rw [fr 36 (by decide)]
    exact (m6 i a (by omega)).symm
  rw [eo, e5, vr_od (od := M (nA net + 3)) (od' := fun c => M1 36 (4 * net + c)) ho]
  refine vr_cg (fun i a b t => ?_)
  have z := hN.2 i a (by omega)
  have e1 : vG (fun k => M1 34 (40 * net + k)) (fun k c => M1 35 (3 * (40 * net + k) + c)) (M (nA net + 3) i) t = vG (M (nA net + 1)) (fun g c => M (nA net + 2) (3 * g + c)) (M (nA net + 3) i) t := vs_cg hb hk _ _ t z.1 (by omega)
  rw [e1]
  exact vs_fuel hb _ _ _ t z.1 (by omega) (by omega) (by omega)
theorem hc_hr {f g : Int → Int} : ∀ {n : Nat}, (∀ j : Int, 0 ≤ j → j < n → (f j = -1 ↔ g j = 0)) → hc f n = hr g n
  | 0, _ => rfl
  | n + 1, h => by
    have z := h n (by omega) (by omega)
    unfold hc hr
    rw [hc_hr (n := n) (fun j a b => h j a (by omega))]
    by_cases q : f n = -1
    · rw [if_pos q, if_pos (z.mp q)]
    · rw [if_neg q, if_neg (fun t => q (z.mpr t))]
theorem hd_eq (h : LSy M J) : hc (M 12) 12 = hr (M 43) 12 := hc_hr (fun j a b => (h.2.2.2.2.2 j a (by omega)).1)
theorem noH_0 (e : M1 43 = M 43) (h : noHr M1) : hr (M 43) 12 = 0 := hr_zero (fun k a b => by rw [← e]; exact h k a (by omega))
theorem exH_1 (e : M1 43 = M 43) (h : exHr M1) : 0 < hr (M 43) 12 := by
  obtain ⟨k, a, b, q⟩ := h
  rw [e] at q
  have z := hr_pos (f := M 43) (n := 12) a (by omega) q
  omega
theorem sim_told {w : Int} (h : LSy M J) (hc : ((w < 0 ∨ 7 < w) ∧ x = -2) ∨ (0 ≤ w ∧ w < 3 ∧ x = M (nA w) 4) ∨ (3 ≤ w ∧ w < 6 ∧ x = M (nA (w - 3)) 5) ∨ (w = 6 ∧ x = hc (M 12) 12) ∨ (w = 7 ∧ x = M 5 8)) (hr' : ((w < 0 ∨ 7 < w) ∧ y = -2) ∨ (0 ≤ w ∧ w < 3 ∧ y = M 32 w) ∨ (3 ≤ w ∧ w < 6 ∧ y = M 33 (w - 3)) ∨ (w = 6 ∧ y = hr (M 43) 12) ∨ (w = 7 ∧ y = M 31 8)) : x = y := by
  have e1 := hd_eq h
  have e2 := h.2.2.2.2.1
  by_cases a : 0 ≤ w ∧ w < 3
  · have e3 := (h.1.2.2 w a.1 a.2).1
    omega
  · by_cases b : 3 ≤ w ∧ w < 6
    · have e3 := (h.1.2.2 (w - 3) (by omega) (by omega)).2.1
      omega
    · omega
theorem sim_order {net : Int} (ok : zOK M) (h : LSy M J) (fr : ∀ a : Nat, 31 ≤ a → M1 a = M a) (fr2 : ∀ a : Nat, a < 31 → M2 a = M1 a) (h1 : ((net < 0 ∨ 3 ≤ net) ∧ x = -1 ∧ M1 = M) ∨ (0 ≤ net ∧ net < 3 ∧ 0 < hc (M 12) 12 ∧ x = -3 ∧ M1 = M) ∨ (0 ≤ net ∧ net < 3 ∧ hc (M 12) 12 ≤ 0 ∧ orQ (vr (vs (M (nA net + 1)) (fun g c => M (nA net + 2) (3 * g + c)) 40) (M (nA net + 3)) (M (nA net) 5).toNat 0 (o0 (M 3))) x (M1 3) (M1 4) ∧ oIn (M1 3) (M1 4))) (h2 : ((net < 0 ∨ 3 ≤ net) ∧ y = -1 ∧ M2 = M1) ∨ (0 ≤ net ∧ net < 3 ∧ exHr M1 ∧ y = -3 ∧ M2 = M1) ∨ (0 ≤ net ∧ net < 3 ∧ noHr M1 ∧ orQ (vr (vG (fun k => M1 34 (40 * net + k)) (fun k c => M1 35 (3 * (40 * net + k) + c))) (fun c => M1 36 (4 * net + c)) (M1 33 net).toNat 0 (o0 (M1 38))) y (M2 38) (M2 39))) : x = y ∧ oSy M2 := by
  have e43 := fr 43 (by decide)
  have eh := hd_eq h
  have sm : M1 = M → M2 = M1 → oSy M2 := fun a b => by rw [b, a]; exact h.2.2.2.1
  rcases h1 with ⟨a, b, e⟩ | ⟨a1, a2, a3, b, e⟩ | ⟨a1, a2, a3, q, qi⟩
  · rcases h2 with ⟨a', b', e'⟩ | ⟨a1', a2', -⟩ | ⟨a1', a2', -⟩
    · exact ⟨b.trans b'.symm, sm e e'⟩
    · exfalso; omega
    · exfalso; omega
  · rcases h2 with ⟨a', -⟩ | ⟨a1', a2', a3', b', e'⟩ | ⟨a1', a2', a3', -⟩
    · exfalso; omega
    · exact ⟨b.trans b'.symm, sm e e'⟩
    · have z := noH_0 e43 a3'
      exfalso; omega
  · rcases h2 with ⟨a', -⟩ | ⟨a1', a2', a3', -⟩ | ⟨a1', a2', a3', q'⟩
    · exfalso; omega
    · have z := exH_1 e43 a3'
      exfalso; omega
    · rw [od_eq ok h fr a1 a2] at q'
      obtain ⟨w1, w2⟩ := or_sy q q'
      refine ⟨w1, fun v v0 v1 => ?_, ?_⟩
      · rw [fr2 3 (by decide), fr2 4 (by decide)]
        exact w2 v v0 v1
      · rw [fr2 3 (by decide), fr2 4 (by decide)]
        exact qi
theorem sim_move {v p : Int} (h : LSy M J) (fr : ∀ a : Nat, 31 ≤ a → M1 a = M a) (fr2 : ∀ a : Nat, a < 31 → M2 a = M1 a) (h1 : ((v < 0 ∨ 8 ≤ v ∨ p < 0 ∨ 8 ≤ p) ∧ x = -2 ∧ M1 = M) ∨ (¬ (v < 0 ∨ 8 ≤ v ∨ p < 0 ∨ 8 ≤ p) ∧ 0 < hc (M 12) 12 ∧ x = -3 ∧ M1 = M) ∨ (¬ (v < 0 ∨ 8 ≤ v ∨ p < 0 ∨ 8 ≤ p) ∧ hc (M 12) 12 ≤ 0 ∧ x = M 4 v ∧ mvQ (M 3) (M 4) (M1 3) (M1 4) v p)) (h2 : ((v < 0 ∨ 8 ≤ v ∨ p < 0 ∨ 8 ≤ p) ∧ y = -2 ∧ M2 = M1) ∨ (¬ (v < 0 ∨ 8 ≤ v ∨ p < 0 ∨ 8 ≤ p) ∧ exHr M1 ∧ y = -3 ∧ M2 = M1) ∨ (¬ (v < 0 ∨ 8 ≤ v ∨ p < 0 ∨ 8 ≤ p) ∧ noHr M1 ∧ y = M1 39 v ∧ mvQ (M1 38) (M1 39) (M2 38) (M2 39) v p)) : x = y ∧ oSy M2 := by
  have e43 := fr 43 (by decide)
  have eh := hd_eq h
  have sm : M1 = M → M2 = M1 → oSy M2 := fun a b => by rw [b, a]; exact h.2.2.2.1
  rcases h1 with ⟨a, b, e⟩ | ⟨a, a3, b, e⟩ | ⟨a, a3, b, q⟩
  · rcases h2 with ⟨a', b', e'⟩ | ⟨a', -⟩ | ⟨a', -⟩
    · exact ⟨b.trans b'.symm, sm e e'⟩
    · exact absurd a a'
    · exact absurd a a'
  · rcases h2 with ⟨a', -⟩ | ⟨a', a3', b', e'⟩ | ⟨a', a3', -⟩
    · exact absurd a' a
    · exact ⟨b.trans b'.symm, sm e e'⟩
    · have z := noH_0 e43 a3'
      exfalso; omega
  · rcases h2 with ⟨a', -⟩ | ⟨a', a3', -⟩ | ⟨a', a3', b', q'⟩
    · exact absurd a' a
    · have z := exH_1 e43 a3'
      exfalso; omega
    · rw [fr 38 (by decide), fr 39 (by decide)] at q'
      rw [fr 39 (by decide)] at b'
      have hv := h.2.2.2.1.1 v (by omega) (by omega)
      have hi := (h.2.2.2.1.2 v (by omega) (by omega)).1
      have w := mv_sy h.2.2.2.1.1 (by omega) (by omega) (by omega) (by omega) hi.1 hi.2.1 q q'
      refine ⟨by omega, fun j j0 j1 => ?_, ?_⟩
      · rw [fr2 3 (by decide), fr2 4 (by decide)]
        exact w j j0 j1
      · rw [fr2 3 (by decide), fr2 4 (by decide)]
        exact mv_in h.2.2.2.1.2 (by omega) (by omega) (by omega) (by omega) q
/-- a new pair -/
theorem LS_0 (hc : cF M) (hp : plo M (fun _ => False)) (hr' : rZ M J) : LSy M J := by
  have li : LI M J := LI_z hc hr'
  obtain ⟨c1, ⟨c2, c3, c4⟩, c5, c6, c7, c8, c9⟩ := hc
  obtain ⟨r1, r2, r3, r4, r5, r6, r7⟩ := hr'
  have hrt : ∀ z : Int, rt M z → z = -1 := fun z hz => by
    rcases hz with ⟨j, jb, q⟩ | ⟨g, gb, q⟩ | ⟨k, kb, q⟩
    · exact q.trans (c2 j jb.1 jb.2)
    · exact q.trans (c3 g gb.1 gb.2)
    · rw [c4] at kb
      exact absurd (Int.lt_of_le_of_lt kb.1 kb.2) (by decide)
  refine ⟨li, ⟨⟨_, hp, fun z hz => Or.inl (hrt z hz)⟩, ?_, c3, c4⟩, r7, ⟨fun v a b => ?_, fun v a b => ?_⟩, by rw [c5, r3.1], fun j a b => ?_⟩
  · rintro ⟨l, -, h2, h3⟩
    cases l with
    | nil => rw [c5] at h3; exact absurd h3 (by decide)
    | cons z t =>
      obtain ⟨w, w1, w2, -⟩ := h2 z List.mem_cons_self
      exact w2 (hrt w w1)
  · rw [(c8 v a b).1, (c8 v a b).2, (r6 v a b).1, (r6 v a b).2]
    exact ⟨rfl, rfl⟩
  · have e1 := c8 v a b
    rw [e1.1, e1.2]
    exact ⟨⟨a, b, e1.1⟩, a, b, rfl⟩
  · have e1 : M 12 j = -1 := c2 j a b
    have e2 : M 43 j = 0 := r1 43 (by decide) (by decide) (by decide) (by decide) (by decide) j
    exact ⟨⟨fun _ => e2, fun _ => e1⟩, Or.inl e1⟩
end OPS
end
section
/-! ===== calls on nets: what they leave as it was ===== -/
theorem fr_gate {M M1 M2 : zM} {J : zJ} {net k u v w x y : Int} (h : LI M J) (hok : zOK M) (h1 : (((net < 0 ∨ 3 ≤ net) ∧ x = -1 ∧ M1 = M) ∨ (0 ≤ net ∧ net < 3 ∧ (k < 0 ∨ 10 < k) ∧ x = -2 ∧ M1 = M) ∨ (0 ≤ net ∧ net < 3 ∧ 0 ≤ k ∧ k ≤ 10 ∧ ¬ ((opF k < 1 ∨ (0 ≤ u ∧ u < M (nA net) 4)) ∧ (opF k < 2 ∨ (0 ≤ v ∧ v < M (nA net) 4)) ∧ (opF k < 3 ∨ (0 ≤ w ∧ w < M (nA net) 4))) ∧ x = -1 ∧ M1 = M) ∨ (0 ≤ net ∧ net < 3 ∧ 0 ≤ k ∧ k ≤ 10 ∧ ((opF k < 1 ∨ (0 ≤ u ∧ u < M (nA net) 4)) ∧ (opF k < 2 ∨ (0 ≤ v ∧ v < M (nA net) 4)) ∧ (opF k < 3 ∨ (0 ≤ w ∧ w < M (nA net) 4))) ∧ ((k = 0 ∧ (u < 0 ∨ 8 ≤ u) ∧ x = -2 ∧ M1 = M) ∨ ((¬ k = 0 ∨ (0 ≤ u ∧ u < 8)) ∧ ((x = -4 ∧ M1 = M ∧ 40 ≤ M (nA net) 4) ∨ (x = M (nA net) 4 ∧ M (nA net) 4 < 40 ∧ M1 = uz (uz (uz (uz (uz M (nA net + 1) (M (nA net) 4) k) (nA net + 2) (3 * M (nA net) 4) u) (nA net + 2) (3 * M (nA net) 4 + 1) v) (nA net + 2) (3 * M (nA net) 4 + 2) w) (nA net) 4 (M (nA net) 4 + 1)))))))) (h2 : (((net < 0 ∨ 3 ≤ net) ∧ y = -1 ∧ M2 = M1) ∨ (0 ≤ net ∧ net < 3 ∧ (k < 0 ∨ 10 < k) ∧ y = -2 ∧ M2 = M1) ∨ (0 ≤ net ∧ net < 3 ∧ 0 ≤ k ∧ k ≤ 10 ∧ ¬ ((opF k < 1 ∨ (0 ≤ u ∧ u < M1 32 net)) ∧ (opF k < 2 ∨ (0 ≤ v ∧ v < M1 32 net)) ∧ (opF k < 3 ∨ (0 ≤ w ∧ w < M1 32 net))) ∧ y = -1 ∧ M2 = M1) ∨ (0 ≤ net ∧ net < 3 ∧ 0 ≤ k ∧ k ≤ 10 ∧ ((opF k < 1 ∨ (0 ≤ u ∧ u < M1 32 net)) ∧ (opF k < 2 ∨ (0 ≤ v ∧ v < M1 32 net)) ∧ (opF k < 3 ∨ (0 ≤ w ∧ w < M1 32 net))) ∧ ((k = 0 ∧ (u < 0 ∨ 8 ≤ u) ∧ y = -2 ∧ M2 = M1) ∨ ((¬ k = 0 ∨ (0 ≤ u ∧ u < 8)) ∧ ((y = -4 ∧ M2 = M1 ∧ 40 ≤ M1 32 net) ∨ (y = M1 32 net ∧ M1 32 net < 40 ∧ M2 = uz (uz (uz (uz (uz M1 34 (40 * net + M1 32 net) k) 35 (3 * (40 * net + M1 32 net)) u) 35 (3 * (40 * net + M1 32 net) + 1) v) 35 (3 * (40 * net + M1 32 net) + 2) w) 32 net (M1 32 net + 1)))))))) : ∀ a : Nat, (a < 16 ∨ a = 31 ∨ 36 < a) → M2 a = M a := by
  intro a ha
  have e_h1 : M1 a = M a := by
    rcases h1 with ⟨-, -, e⟩ | ⟨-, -, -, -, e⟩ | ⟨-, -, -, -, -, -, e⟩ | ⟨n0, n1, -, -, -, ⟨-, -, -, e⟩ | ⟨-, ⟨-, e, -⟩ | ⟨-, -, e⟩⟩⟩
    · rw [e]
    · rw [e]
    · rw [e]
    · rw [e]
    · rw [e]
    · rw [e, uz_o (by unfold nA; omega), uz_o (by unfold nA; omega), uz_o (by unfold nA; omega), uz_o (by unfold nA; omega), uz_o (by unfold nA; omega)]
  have e_h2 : M2 a = M1 a := by
    rcases h2 with ⟨-, -, e⟩ | ⟨-, -, -, -, e⟩ | ⟨-, -, -, -, -, -, e⟩ | ⟨n0, n1, -, -, -, ⟨-, -, -, e⟩ | ⟨-, ⟨-, e, -⟩ | ⟨-, -, e⟩⟩⟩
    · rw [e]
    · rw [e]
    · rw [e]
    · rw [e]
    · rw [e]
    · rw [e, uz_o (by omega), uz_o (by omega), uz_o (by omega), uz_o (by omega), uz_o (by omega)]
  exact e_h2.trans e_h1
theorem fr_out {M M1 M2 : zM} {J : zJ} {net g x y : Int} (h : LI M J) (hok : zOK M) (h1 : (((net < 0 ∨ 3 ≤ net) ∧ x = -1 ∧ M1 = M) ∨ (0 ≤ net ∧ net < 3 ∧ (g < 0 ∨ M (nA net) 4 ≤ g) ∧ x = -1 ∧ M1 = M) ∨ (0 ≤ net ∧ net < 3 ∧ 0 ≤ g ∧ g < M (nA net) 4 ∧ ((x = -4 ∧ M1 = M ∧ 4 ≤ M (nA net) 5) ∨ (x = M (nA net) 5 ∧ M (nA net) 5 < 4 ∧ M1 = uz (uz M (nA net + 3) (M (nA net) 5) g) (nA net) 5 (M (nA net) 5 + 1)))))) (h2 : (((net < 0 ∨ 3 ≤ net) ∧ y = -1 ∧ M2 = M1) ∨ (0 ≤ net ∧ net < 3 ∧ (g < 0 ∨ M1 32 net ≤ g) ∧ y = -1 ∧ M2 = M1) ∨ (0 ≤ net ∧ net < 3 ∧ 0 ≤ g ∧ g < M1 32 net ∧ ((y = -4 ∧ M2 = M1 ∧ 4 ≤ M1 33 net) ∨ (y = M1 33 net ∧ M1 33 net < 4 ∧ M2 = uz (uz M1 36 (4 * net + M1 33 net) g) 33 net (M1 33 net + 1)))))) : ∀ a : Nat, (a < 16 ∨ a = 31 ∨ 36 < a) → M2 a = M a := by
  intro a ha
  have e_h1 : M1 a = M a := by
    rcases h1 with ⟨-, -, e⟩ | ⟨-, -, -, -, e⟩ | ⟨n0, n1, -, -, ⟨-, e, -⟩ | ⟨-, -, e⟩⟩
    · rw [e]
    · rw [e]
    · rw [e]
    · rw [e, uz_o (by unfold nA; omega), uz_o (by unfold nA; omega)]
  have e_h2 : M2 a = M1 a := by
    rcases h2 with ⟨-, -, e⟩ | ⟨-, -, -, -, e⟩ | ⟨n0, n1, -, -, ⟨-, e, -⟩ | ⟨-, -, e⟩⟩
    · rw [e]
    · rw [e]
    · rw [e]
    · rw [e, uz_o (by omega), uz_o (by omega)]
  exact e_h2.trans e_h1
theorem fr_clr {M M1 M2 : zM} {J : zJ} {net x y : Int} (h : LI M J) (h1 : ((net < 0 ∨ 3 ≤ net) ∧ x = -1 ∧ M1 = M) ∨ (0 ≤ net ∧ net < 3 ∧ x = M (nA net) 4 ∧ M1 = uz (uz M (nA net) 4 0) (nA net) 5 0)) (h2 : ((net < 0 ∨ 3 ≤ net) ∧ y = -1 ∧ M2 = M1) ∨ (0 ≤ net ∧ net < 3 ∧ y = M1 32 net ∧ M2 = uz (uz M1 32 net 0) 33 net 0)) : ∀ a : Nat, (a < 16 ∨ a = 31 ∨ 36 < a) → M2 a = M a := by
  intro a ha
  have e_h1 : M1 a = M a := by
    rcases h1 with ⟨-, -, e⟩ | ⟨n0, n1, -, e⟩
    · rw [e]
    · rw [e, uz_o (by unfold nA; omega), uz_o (by unfold nA; omega)]
  have e_h2 : M2 a = M1 a := by
    rcases h2 with ⟨-, -, e⟩ | ⟨n0, n1, -, e⟩
    · rw [e]
    · rw [e, uz_o (by omega), uz_o (by omega)]
  exact e_h2.trans e_h1
end
