/-! ===== the reference: build ===== -/
theorem okR_cg {M M0 : zM} {J : zJ} {E : Lb → Prop} {F : FN} (e43 : M0 43 = M 43) (e8 : M0 31 8 = M 31 8) : okR M0 J E F ↔ okR M J E F := by
  unfold okR
  rw [e8, over_cg (fun y => or_congr (or_congr (lbr_c e43 y) Iff.rfl) Iff.rfl)]
theorem okBr_cg {M M0 : zM} {J : zJ} {F : Int → FN} {L : Int → Int} {g : Int} (e43 : M0 43 = M 43) (e8 : M0 31 8 = M 31 8) : okBr M0 J F L g ↔ okBr M J F L g := by
  unfold okBr
  constructor
  · intro h k a b c
    exact (okR_cg e43 e8).mp (h k a b c)
  · intro h k a b c
    exact (okR_cg e43 e8).mpr (h k a b c)
def brX (M : zM) (J : zJ) (h : Int) (kd : Int → Int) (od : Int → Int → Int) (pl : Int → Int) (g x : Int) (M' : zM) (J' : zJ) : Prop := ∃ L : Int → Int, lnS kd od g L ∧ finR M J h (okBr M J (gF kd od pl) L g) (gF kd od pl g) x M' J'
set_option maxRecDepth 20000 in
theorem zX4_build_g {G : tl_G} {M : zM} {J : zJ} {h net o : Int} (hr : RI M J) (hk : M 31 27 ≤ 2000000000) (hW : whOK J) : ZN G yX4_build mX4_build 6 kRg [vR 31, vI h, vI net, vI o] F1 M J (qI (fun x M' J' => RI M' J' ∧ M' 31 27 ≤ M 31 27 + 400 ∧ (((h < 0 ∨ 12 ≤ h ∨ net < 0 ∨ 3 ≤ net ∨ o < 0 ∨ M 33 net ≤ o) ∧ x = -1 ∧ M' = M ∧ J' = J) ∨ (¬ (h < 0 ∨ 12 ≤ h ∨ net < 0 ∨ 3 ≤ net ∨ o < 0 ∨ M 33 net ≤ o) ∧ brX M J h (fun k => M 34 (40 * net + k)) (fun k c => M 35 (3 * (40 * net + k) + c)) (M 39) (M 36 (4 * net + o)) x M' J')))) := by
  refine ZN_of (L := [_, _, _, _, _]) (by decide) rfl rfl (Nat.le_of_ble_eq_true rfl) rfl (fun hav => ?_)
  refine Z_ok (fun ok0 => ?_)
  refine Z_rg 33 net rfl (fun g33 g33b => ?_)
  refine Z_iload_n (n := 1) dX4_build_0 rfl rfl ?_
  refine Z_callSi (n := 4) [_] _ dX4_build_1 rfl cwX4_210 rfl rfl (Nat.le_of_ble_eq_true rfl) (by refine ⟨?_, ?_, ?_, ?_⟩ <;> exact Nat.le_of_ble_eq_true rfl) (fun _ _ => trivial) (zX4_isHandle  ) ?_
  intro x1 M1 J1 z1 f1 q1
  obtain ⟨e1_1, e1_2, h1⟩ := q1
  replace e1_1 := e1_1.symm; subst e1_1
  replace e1_2 := e1_2.symm; subst e1_2
  refine Z_if_eq (n := 7) (t := 16) dX4_build_4 rfl (by decide) (fun c4 => ?_) (fun c4 => ?_)
  · refine Z_iconst (n := 17) dX4_build_16 rfl (by decide) ?_
    refine Z_iret dX4_build_17 rfl ?_
    exact ⟨hr, by omega, Or.inl ⟨by omega, rfl, rfl, rfl⟩⟩
  · refine Z_aload_n (n := 8) dX4_build_7 rfl rfl ?_
    refine Z_iload_n (n := 9) dX4_build_8 rfl rfl ?_
    refine Z_iload_n (n := 10) dX4_build_9 rfl rfl ?_
    refine Z_callVi (n := 13) [_, _] _ dX4_build_10 rfl cwX4_128 rfl rfl rfl (Nat.le_of_ble_eq_true rfl) (by refine ⟨?_, ?_, ?_, ?_⟩ <;> exact Nat.le_of_ble_eq_true rfl) (fun _ _ => trivial) (zX4_isOutput  ) ?_
    intro x10 M10 J10 z10 f10 q10
    obtain ⟨e10_1, e10_2, h10⟩ := q10
    replace e10_1 := e10_1.symm; subst e10_1
    replace e10_2 := e10_2.symm; subst e10_2
    refine Z_if_ne (n := 16) (t := 18) dX4_build_13 rfl (by decide) (fun c13 => ?_) (fun c13 => ?_)
    · refine Z_aload_n (n := 19) dX4_build_18 rfl rfl ?_
      refine Z_callVv (n := 22) [] _ dX4_build_19 rfl cwX4_213 rfl rfl rfl (Nat.le_of_ble_eq_true rfl) (by refine ⟨?_, ?_, ?_, ?_⟩ <;> exact Nat.le_of_ble_eq_true rfl) (fun _ h => h) (zX4_begin  (by decide)) ?_
      intro M19 J19 f19 q19
      obtain ⟨e19_1, e19_2⟩ := q19
      replace e19_1 := e19_1.symm; subst e19_1
      replace e19_2 := e19_2.symm; subst e19_2
      obtain ⟨tb, hb, ub, mb, db, ob⟩ := begin_ok hr
      refine Z_nm (fun M19 e19 => ?_)
      rw [← e19] at tb hb ub mb db ob
      have oB : ∀ a : Nat, ¬ a = 31 → M19 a = M a := fun a ha => by rw [e19]; exact uz_o ha
      have e8 : M19 31 8 = M 31 8 := by rw [e19]; exact uz_n (by decide)
      clear e19
      refine Z_rg 31 8 rfl (fun gb8 gb8b => ?_)
      refine Z_fr (fun frB => ?_)
      refine Z_aload_n (n := 23) dX4_build_22 rfl rfl ?_
      refine Z_getA (n := 26) dX4_build_23 rfl ffX4_22 rfl rfl ?_
      refine Z_iconst (n := 27) dX4_build_26 rfl (by decide) ?_
      refine Z_iload_n (n := 28) dX4_build_27 rfl rfl ?_
      refine Z_imul (n := 29) dX4_build_28 rfl (by omega) ?_
      refine Z_iload_n (n := 30) dX4_build_29 rfl rfl ?_
      refine Z_iadd (n := 31) dX4_build_30 rfl (by omega) ?_
      refine Z_iald (n := 32) dX4_build_31 rfl rfl rfl (by first | decide | assumption) (by omega) (by omega) (fun r31 s31 => ?_)
      refine Z_istore (L' := [_, _, _, _, _]) (n := 34) dX4_build_32 rfl (by decide) rfl rfl ?_
      refine Z_aload_n (n := 35) dX4_build_34 rfl rfl ?_
      refine Z_iload_n (n := 36) dX4_build_35 rfl rfl ?_
      refine Z_bipush (n := 38) dX4_build_36 rfl (by decide) (by decide) ?_
      refine Z_iload (n := 40) dX4_build_38 rfl rfl ?_
      refine Z_iadd (n := 41) dX4_build_40 rfl (by omega) ?_
      refine Z_aload_n (n := 42) dX4_build_41 rfl rfl ?_
      refine Z_iload_n (n := 43) dX4_build_42 rfl rfl ?_
      refine Z_iload (n := 45) dX4_build_43 rfl rfl ?_
      have hNb : rNt M19 net := rNt_fr (hr.2.2.2.2 net (by omega) (by omega)) (frB 32 (by decide)).1 (frB 33 (by decide)).1 (frB 34 (by decide)).1 (frB 35 (by decide)).1 (frB 36 (by decide)).1
      have e33 : M19 33 net = M 33 net := congrFun (frB 33 (by decide)).1 net
      have hg1 := hNb.2 o (by omega) (by omega)
      refine Z_rg 32 net rfl (fun g32 g32b => ?_)
      refine Z_callVi (n := 48) [_, _] _ dX4_build_45 rfl cwX4_216 rfl rfl rfl (Nat.le_of_ble_eq_true rfl) (by refine ⟨?_, ?_, ?_, ?_⟩ <;> exact Nat.le_of_ble_eq_true rfl) (fun _ h => h) (zX4_builds_g  (by omega) (by omega) (by omega) (by exact hg1) (by exact hNb) (by exact tb) (by exact fun y a b => hb (12 + y) (by omega) (by omega)) (by exact ub) (by omega) (by exact hW) (by exact ob)) ?_
      intro x45 M45 J45 z45 f45 q45
      obtain ⟨ti45, hd45, mk45, hi45, bi45, bx45, rb45⟩ := q45
      have e36 : M19 36 (4 * net + o) = (M 36 (4 * net + o)) := congrFun (frB 36 (by decide)).1 _
      rw [(frB 34 (by decide)).1, (frB 35 (by decide)).1, (frB 39 (by decide)).1, e36] at rb45
      obtain ⟨L, ls45, rq45⟩ := rb45
      have yo : (x45 = 1 ∧ okBr M J (gF (fun k => M 34 (40 * net + k)) (fun k c => M 35 (3 * (40 * net + k) + c)) (M 39)) L (M 36 (4 * net + o)) ∧ phi J45 (12 + M19 36 (4 * net + o)) = gF (fun k => M 34 (40 * net + k)) (fun k c => M 35 (3 * (40 * net + k) + c)) (M 39) (M 36 (4 * net + o))) ∨ (x45 = 0 ∧ ¬ okBr M J (gF (fun k => M 34 (40 * net + k)) (fun k c => M 35 (3 * (40 * net + k) + c)) (M 39)) L (M 36 (4 * net + o))) := by
        rw [e36]
        rw [okBr_cg (oB 43 (by decide)) e8] at rq45
        exact rq45
      refine Z_rg 31 8 rfl (fun gs8 gs8b => ?_)
      have hq45 : x45 = 1 → ¬ M45 43 (12 + M19 36 (4 * net + o)) = 0 ∧ M45 31 24 ≤ 250 := fun q => by
        rcases bx45 with ⟨-, a, b, -⟩ | a
        · exact ⟨b, by omega⟩
        · omega
      have hy45 : x45 = 0 ∨ x45 = 1 := by
        rcases bx45 with ⟨a, -⟩ | a
        · exact Or.inr a
        · exact Or.inl a
      have hw45 : x45 = 1 → M45 31 24 ≤ M45 31 8 := fun q => by
        rcases bx45 with ⟨-, a, -⟩ | a
        · exact a
        · omega
      clear bx45
      refine Z_callVi (n := 51) [_, _, _] _ dX4_build_48 rfl cwX4_219 rfl rfl rfl (Nat.le_of_ble_eq_true rfl) (by refine ⟨?_, ?_, ?_, ?_⟩ <;> exact Nat.le_of_ble_eq_true rfl) (fun a h => by unfold kRg at h; unfold kTk; omega) (zX4_gets  (by omega) (by omega) (by omega) (by omega) (by omega) (by exact ti45) (by exact fun q => hq45 q) (by omega)) ?_
      intro x48 M48 J48 z48 f48 q48
      obtain ⟨ti48, hn48, am48, gx48⟩ := q48
      refine Z_fr (fun frR => ?_)
      refine Z_ok (fun okG => ?_)
      have fq := fin_r (F := gF (fun k => M 34 (40 * net + k)) (fun k c => M 35 (3 * (40 * net + k) + c)) (M 39) (M 36 (4 * net + o))) (by omega) (by omega) (hdl_t db hd45) (fun j hj => bi45 j (Or.inl hj)) yo ti48 okG gx48
      refine Z_iret dX4_build_51 rfl ?_
      exact ⟨RI_gets hr ok0 (hdl_t db hd45) hw45 frR ti48 hn48 gx48, by omega, Or.inr ⟨by omega, L, ls45, fq⟩⟩
    · refine Z_iconst (n := 17) dX4_build_16 rfl (by decide) ?_
      refine Z_iret dX4_build_17 rfl ?_
      exact ⟨hr, by omega, Or.inl ⟨by omega, rfl, rfl, rfl⟩⟩
