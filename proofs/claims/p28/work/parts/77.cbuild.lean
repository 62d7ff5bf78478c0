/-! ===== the class: build ===== -/
theorem bd_fin {M M3 : zM} {E : Lb → Prop} {F : Int → FN} {L : Int → Int} {g x : Int} (h : bdQ M E F L g x M3) : ∃ E' : Lb → Prop, mid M M3 E' ∧ (okB M E F L g ↔ ¬ x = -1) ∧ (¬ x = -1 → den M3 x = F g ∧ ¬ over (fun y => (LBc M y ∨ E' y) ∨ laid (F g) y) (M 5 8)) ∧ ∃ S : Int → Prop, plo M3 S ∧ rtO M3 S ∧ (x = -1 ∨ okN S x) := by
  rcases h with ⟨a, b, E', m⟩ | ⟨a, b, m, ⟨r, d⟩, -⟩
  · obtain ⟨S, hS, hR⟩ := m.1
    exact ⟨E', m, ⟨fun t => absurd t b, fun t => absurd a t⟩, fun t => absurd a t, S, hS, hR, Or.inl a⟩
  · obtain ⟨S, hS, hR⟩ := m.1
    refine ⟨_, m, ⟨fun _ => a, fun _ => b⟩, fun _ => ⟨d, fun ho => m.2.2.2.2 (over_mono (fun y hy => ?_) ho)⟩, S, hS, hR, (hR x r).imp_right id⟩
    rcases hy with w | w
    · exact w
    · exact Or.inr (Or.inr w)
def bfQ (M : zM) (h : Int) (kd : Int → Int) (od : Int → Int → Int) (pl : Int → Int) (g x : Int) (M' : zM) : Prop := ∃ L : Int → Int, lnS kd od g L ∧ finQ M h (okB M E0 (gF kd od pl) L g) (gF kd od pl g) x M'
set_option maxRecDepth 20000 in
theorem zX3_build_f {G : tl_G} {M : zM} {J : zJ} {h net o : Int} (hc : cI M) (hb : CB M) : ZN G yX3_build mX3_build 14 kFc [vR 0, vI h, vI net, vI o] F1 M J (qI (fun x M' J' => J' = J ∧ cI M' ∧ (((h < 0 ∨ 12 ≤ h ∨ net < 0 ∨ 3 ≤ net ∨ o < 0 ∨ M (nA net) 5 ≤ o) ∧ x = -1 ∧ M' = M) ∨ (¬ (h < 0 ∨ 12 ≤ h ∨ net < 0 ∨ 3 ≤ net ∨ o < 0 ∨ M (nA net) 5 ≤ o) ∧ bfQ M h (M (nA net + 1)) (fun g c => M (nA net + 2) (3 * g + c)) (M 4) (M (nA net + 3) o) x M')))) := by
  refine ZN_of (L := [_, _, _, _]) (by decide) rfl rfl (Nat.le_of_ble_eq_true rfl) rfl (fun hav => ?_)
  refine Z_iload_n (n := 1) dX3_build_0 rfl rfl ?_
  refine Z_callSi (n := 4) [_] _ dX3_build_1 rfl cwX3_123 rfl rfl (Nat.le_of_ble_eq_true rfl) (by refine ⟨?_, ?_, ?_, ?_⟩ <;> exact Nat.le_of_ble_eq_true rfl) (fun _ _ => trivial) (zX3_isHandle  ) ?_
  intro x1 M1 J1 z1 f1 q1
  obtain ⟨e1_1, e1_2, h1⟩ := q1
  replace e1_1 := e1_1.symm; subst e1_1
  replace e1_2 := e1_2.symm; subst e1_2
  refine Z_if_eq (n := 7) (t := 27) dX3_build_4 rfl (by decide) (fun c4 => ?_) (fun c4 => ?_)
  · refine Z_iconst (n := 28) dX3_build_27 rfl (by decide) ?_
    refine Z_iret dX3_build_28 rfl ?_
    exact ⟨rfl, hc, Or.inl ⟨by omega, rfl, rfl⟩⟩
  · refine Z_iload_n (n := 8) dX3_build_7 rfl rfl ?_
    refine Z_callSi (n := 11) [_] _ dX3_build_8 rfl cwX3_62 rfl rfl (Nat.le_of_ble_eq_true rfl) (by refine ⟨?_, ?_, ?_, ?_⟩ <;> exact Nat.le_of_ble_eq_true rfl) (fun _ _ => trivial) (zX3_isNet  ) ?_
    intro x8 M8 J8 z8 f8 q8
    obtain ⟨e8_1, e8_2, h8⟩ := q8
    replace e8_1 := e8_1.symm; subst e8_1
    replace e8_2 := e8_2.symm; subst e8_2
    refine Z_if_eq (n := 14) (t := 27) dX3_build_11 rfl (by decide) (fun c11 => ?_) (fun c11 => ?_)
    · refine Z_iconst (n := 28) dX3_build_27 rfl (by decide) ?_
      refine Z_iret dX3_build_28 rfl ?_
      exact ⟨rfl, hc, Or.inl ⟨by omega, rfl, rfl⟩⟩
    · refine Z_aload_n (n := 15) dX3_build_14 rfl rfl ?_
      refine Z_getA (n := 18) dX3_build_15 rfl ffX3_11 (by first | rfl | exact nS0 (nA_at (by omega) (by omega))) (by first | rfl | exact nS0 (nA_at (by omega) (by omega))) ?_
      refine Z_iload_n (n := 19) dX3_build_18 rfl rfl ?_
      refine Z_aald (n := 20) dX3_build_19 rfl (by first | rfl | exact nS0 (nA_at (by omega) (by omega))) (by decide) (by omega) (by omega) (nA_P (by omega) (by omega)) ?_
      refine Z_iload_n (n := 21) dX3_build_20 rfl rfl ?_
      refine Z_callVi (n := 24) [_] _ dX3_build_21 rfl cwX3_88 rfl rfl (by first | rfl | exact nS0 (nA_at (by omega) (by omega))) (Nat.le_of_ble_eq_true rfl) (by refine ⟨?_, ?_, ?_, ?_⟩ <;> exact Nat.le_of_ble_eq_true rfl) (fun _ _ => trivial) (zX0_hasOutput  (by exact nA_at (by omega) (by omega))) ?_
      intro x21 M21 J21 z21 f21 q21
      obtain ⟨e21_1, e21_2, h21⟩ := q21
      replace e21_1 := e21_1.symm; subst e21_1
      replace e21_2 := e21_2.symm; subst e21_2
      refine Z_if_ne (n := 27) (t := 29) dX3_build_24 rfl (by decide) (fun c24 => ?_) (fun c24 => ?_)
      · refine Z_aload_n (n := 30) dX3_build_29 rfl rfl ?_
        refine Z_callVv (n := 33) [] _ dX3_build_30 rfl cwX3_126 rfl rfl (by first | rfl | exact nS0 (nA_at (by omega) (by omega))) (Nat.le_of_ble_eq_true rfl) (by refine ⟨?_, ?_, ?_, ?_⟩ <;> exact Nat.le_of_ble_eq_true rfl) (fun _ h => h) (zX3_beginSteps  (by decide)) ?_
        intro M30 J30 f30 q30
        obtain ⟨e30_1, e30_2⟩ := q30
        replace e30_1 := e30_1.symm; subst e30_1
        replace e30_2 := e30_2.symm; subst e30_2
        refine Z_nm (fun M30 e30 => ?_)
        have ob : ∀ a : Nat, ¬ a = 0 → M30 a = M a := fun a ha => by rw [e30]; exact uz_o ha
        have md0 : mid M M30 E0 := mid_0 hb ob (by rw [e30]; exact uz_n (by decide))
        have hdb : den M30 = den M := den_cg (ob 6 (by decide)) (ob 7 (by decide)) (ob 8 (by decide))
        have hOb : ordOK M30 := ordOK_fr hc.2.1 (ob 4 (by decide))
        have nb := mid_no md0
        obtain ⟨Sb, hSb, hRb⟩ := md0.1
        have n07b : M30 0 7 = 0 := by rw [e30, uz_n (by decide)]; exact hb.2.2.2
        clear e30
        refine Z_aload_n (n := 34) dX3_build_33 rfl rfl ?_
        refine Z_iload_n (n := 35) dX3_build_34 rfl rfl ?_
        refine Z_aload_n (n := 36) dX3_build_35 rfl rfl ?_
        refine Z_aload_n (n := 37) dX3_build_36 rfl rfl ?_
        refine Z_getA (n := 40) dX3_build_37 rfl ffX3_11 (by first | rfl | exact nS0 (nA_at (by omega) (by omega))) (by first | rfl | exact nS0 (nA_at (by omega) (by omega))) ?_
        refine Z_iload_n (n := 41) dX3_build_40 rfl rfl ?_
        refine Z_aald (n := 42) dX3_build_41 rfl (by first | rfl | exact nS0 (nA_at (by omega) (by omega))) (by decide) (by omega) (by omega) (nA_P (by omega) (by omega)) ?_
        refine Z_iload_n (n := 43) dX3_build_42 rfl rfl ?_
        refine Z_callVi (n := 46) [_, _] _ dX3_build_43 rfl cwX3_129 rfl rfl (by first | rfl | exact nS0 (nA_at (by omega) (by omega))) (Nat.le_of_ble_eq_true rfl) (by refine ⟨?_, ?_, ?_, ?_⟩ <;> exact Nat.le_of_ble_eq_true rfl) (fun a h => by unfold kFc at h; unfold kStep; omega) (zX3_building_f  (by exact nA_at (by omega) (by omega)) (by exact netOK_fr (cI_net hc (nA_at (by omega) (by omega))) (ob _ (by unfold nA; omega)) (ob _ (by unfold nA; omega)) (ob _ (by unfold nA; omega)) (ob _ (by unfold nA; omega))) (by omega) (by rw [ob _ (by unfold nA; omega)]; omega) (by exact hOb) (by exact hb) (by exact md0) (by exact fun x a b => by rw [ob 13 (by decide)]; exact hb.2.2.1 x a b) (by rw [n07b]; decide)) ?_
        intro x43 M43 J43 z43 f43 q43
        obtain ⟨e43_1, xb43, k743, bx43⟩ := q43
        replace e43_1 := e43_1.symm; subst e43_1
        rw [ob 4 (by decide), ob (nA net + 1) (by unfold nA; omega), ob (nA net + 2) (by unfold nA; omega), ob (nA net + 3) (by unfold nA; omega)] at bx43
        obtain ⟨L, ls43, bq43⟩ := bx43
        obtain ⟨E1', md1, okx, dx, S1, hS1, hR1, hx1⟩ := bd_fin bq43
        refine Z_callVi (n := 49) [_, _] _ dX3_build_46 rfl cwX3_133 rfl rfl (by first | rfl | exact nS0 (nA_at (by omega) (by omega))) (Nat.le_of_ble_eq_true rfl) (by refine ⟨?_, ?_, ?_, ?_⟩ <;> exact Nat.le_of_ble_eq_true rfl) (fun a h => by unfold kFc at h; unfold kGive; omega) (zX3_give_f  (by omega) (by omega) (by exact hS1.1) (by exact hx1)) ?_
        intro x46 M46 J46 z46 f46 q46
        obtain ⟨e46_1, ng46, gv46⟩ := q46
        replace e46_1 := e46_1.symm; subst e46_1
        refine Z_fr (fun frR => ?_)
        have fq := fin_mk md1 (by omega) (by omega) hS1 hR1 hx1 okx dx (fun a h1 h2 h3 h4 => (f46 a ⟨h1, h2, h3, h4⟩).1) ng46 gv46
        refine Z_iret dX3_build_49 rfl ?_
        exact ⟨rfl, cI_fin hc fq frR, Or.inr ⟨by omega, L, ls43, fq⟩⟩
      · refine Z_iconst (n := 28) dX3_build_27 rfl (by decide) ?_
        refine Z_iret dX3_build_28 rfl ?_
        exact ⟨rfl, hc, Or.inl ⟨by omega, rfl, rfl⟩⟩
