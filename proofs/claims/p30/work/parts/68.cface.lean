section
/-! ===== the class: its face on functions ===== -/
abbrev kFc (a : Nat) : Prop := (0 < a ∧ a < 5) ∨ 15 < a
/-- there is room for F beside the handles and E -/
def okP (M : zM) (E : Lb → Prop) (F : FN) : Prop := ¬ over (fun y => (LBc M y ∨ E y) ∨ laid F y) (M 5 8)
def E0 (_ : Lb) : Prop := False
theorem rs_ok {M M3 : zM} {E : Lb → Prop} {F : FN} {x : Int} (h : (x = -1 ∧ over (fun y => (LBc M y ∨ E y) ∨ laid F y) (M 5 8)) ∨ (¬ x = -1 ∧ den M3 x = F ∧ ¬ over (fun y => (LBc M y ∨ E y) ∨ laid F y) (M 5 8))) : (okP M E F ↔ ¬ x = -1) ∧ (¬ x = -1 → den M3 x = F ∧ okP M E F) := by
  unfold okP
  rcases h with ⟨a, b⟩ | ⟨a, b, c⟩
  · exact ⟨⟨fun q => absurd b q, fun q => absurd a q⟩, fun q => absurd a q⟩
  · exact ⟨⟨fun _ => a, fun _ => c⟩, fun _ => ⟨b, c⟩⟩
theorem cI_fin {M M' : zM} {J J' : zJ} {h x : Int} {ok : Prop} {F : FN} (hc : cI M) (hf : finQ M h ok F x M') (fr : ∀ a, kFc a → M' a = M a ∧ J' a = J a) : cI M' := by
  obtain ⟨⟨⟨S, hS, -⟩, -⟩, -⟩ := hf
  exact cI_mk hc (fun a ha => fr a (by unfold kPub at ha; unfold kFc; omega)) (plo_pI hS) (ordOK_fr hc.2.1 (fr 4 (by decide)).1)
set_option maxRecDepth 20000 in
theorem zX3_variable_f {G : tl_G} {M : zM} {J : zJ} {h v : Int} (hc : cI M) (hb : CB M) : ZN G yX3_variable mX3_variable 12 kFc [vR 0, vI h, vI v] F1 M J (qI (fun x M' J' => J' = J ∧ cI M' ∧ (((h < 0 ∨ 12 ≤ h) ∧ x = -1 ∧ M' = M) ∨ (0 ≤ h ∧ h < 12 ∧ (v < 0 ∨ 8 ≤ v) ∧ x = -2 ∧ M' = M) ∨ (0 ≤ h ∧ h < 12 ∧ 0 ≤ v ∧ v < 8 ∧ finQ M h (okP M E0 (fun r => bz (r (M 4 v)))) (fun r => bz (r (M 4 v))) x M')))) := by
  refine ZN_of (L := [_, _, _]) (by decide) rfl rfl (Nat.le_of_ble_eq_true rfl) rfl (fun hav => ?_)
  refine Z_iload_n (n := 1) dX3_variable_0 rfl rfl ?_
  refine Z_callSi (n := 4) [_] _ dX3_variable_1 rfl cwX3_123 rfl rfl (Nat.le_of_ble_eq_true rfl) (by refine ⟨?_, ?_, ?_, ?_⟩ <;> exact Nat.le_of_ble_eq_true rfl) (fun _ _ => trivial) (zX3_isHandle  ) ?_
  intro x1 M1 J1 z1 f1 q1
  obtain ⟨e1_1, e1_2, h1⟩ := q1
  replace e1_1 := e1_1.symm; subst e1_1
  replace e1_2 := e1_2.symm; subst e1_2
  refine Z_if_ne (n := 7) (t := 9) dX3_variable_4 rfl (by decide) (fun c4 => ?_) (fun c4 => ?_)
  · refine Z_iload_n (n := 10) dX3_variable_9 rfl rfl ?_
    refine Z_callSi (n := 13) [_] _ dX3_variable_10 rfl cwX3_70 rfl rfl (Nat.le_of_ble_eq_true rfl) (by refine ⟨?_, ?_, ?_, ?_⟩ <;> exact Nat.le_of_ble_eq_true rfl) (fun _ _ => trivial) (zX3_isVariable  ) ?_
    intro x10 M10 J10 z10 f10 q10
    obtain ⟨e10_1, e10_2, h10⟩ := q10
    replace e10_1 := e10_1.symm; subst e10_1
    replace e10_2 := e10_2.symm; subst e10_2
    refine Z_if_ne (n := 16) (t := 19) dX3_variable_13 rfl (by decide) (fun c13 => ?_) (fun c13 => ?_)
    · refine Z_aload_n (n := 20) dX3_variable_19 rfl rfl ?_
      refine Z_callVv (n := 23) [] _ dX3_variable_20 rfl cwX3_126 rfl rfl (by first | rfl | exact nS0 (nA_at (by omega) (by omega))) (Nat.le_of_ble_eq_true rfl) (by refine ⟨?_, ?_, ?_, ?_⟩ <;> exact Nat.le_of_ble_eq_true rfl) (fun _ h => h) (zX3_beginSteps  (by decide)) ?_
      intro M20 J20 f20 q20
      obtain ⟨e20_1, e20_2⟩ := q20
      replace e20_1 := e20_1.symm; subst e20_1
      replace e20_2 := e20_2.symm; subst e20_2
      refine Z_nm (fun M20 e20 => ?_)
      have ob : ∀ a : Nat, ¬ a = 0 → M20 a = M a := fun a ha => by rw [e20]; exact uz_o ha
      have md0 : mid M M20 E0 := mid_0 hb ob (by rw [e20]; exact uz_n (by decide))
      have hdb : den M20 = den M := den_cg (ob 6 (by decide)) (ob 7 (by decide)) (ob 8 (by decide))
      have hOb : ordOK M20 := ordOK_fr hc.2.1 (ob 4 (by decide))
      have nb := mid_no md0
      obtain ⟨Sb, hSb, hRb⟩ := md0.1
      clear e20
      refine Z_aload_n (n := 24) dX3_variable_23 rfl rfl ?_
      refine Z_iload_n (n := 25) dX3_variable_24 rfl rfl ?_
      refine Z_aload_n (n := 26) dX3_variable_25 rfl rfl ?_
      refine Z_iload_n (n := 27) dX3_variable_26 rfl rfl ?_
      refine Z_callVi (n := 30) [_] _ dX3_variable_27 rfl cwX3_136 rfl rfl (by first | rfl | exact nS0 (nA_at (by omega) (by omega))) (Nat.le_of_ble_eq_true rfl) (by refine ⟨?_, ?_, ?_, ?_⟩ <;> exact Nat.le_of_ble_eq_true rfl) (fun a h => by unfold kFc at h; unfold kSt1; omega) (zX3_variableStep_f  (by omega) (by omega) (by exact hOb) (by exact hSb) (by exact hRb) (by exact nb)) ?_
      intro x27 M27 J27 z27 f27 q27
      obtain ⟨e27_1, sq27⟩ := q27
      replace e27_1 := e27_1.symm; subst e27_1
      have sqX := sq27
      rw [ob 4 (by decide)] at sqX
      obtain ⟨md1, rs1, S1, hS1, hR1, hx1⟩ := mid_st md0 sqX (f27 12 (by decide)).1 (f27 13 (by decide)).1 (f27 15 (by decide)).1
      refine Z_callVi (n := 33) [_, _] _ dX3_variable_30 rfl cwX3_133 rfl rfl (by first | rfl | exact nS0 (nA_at (by omega) (by omega))) (Nat.le_of_ble_eq_true rfl) (by refine ⟨?_, ?_, ?_, ?_⟩ <;> exact Nat.le_of_ble_eq_true rfl) (fun a h => by unfold kFc at h; unfold kGive; omega) (zX3_give_f  (by omega) (by omega) (by exact hS1.1) (by exact hx1)) ?_
      intro x30 M30 J30 z30 f30 q30
      obtain ⟨e30_1, ng30, gv30⟩ := q30
      replace e30_1 := e30_1.symm; subst e30_1
      refine Z_fr (fun frR => ?_)
      have fq := fin_mk md1 (by omega) (by omega) hS1 hR1 hx1 (rs_ok rs1).1 (rs_ok rs1).2 (fun a h1 h2 h3 h4 => (f30 a ⟨h1, h2, h3, h4⟩).1) ng30 gv30
      refine Z_iret dX3_variable_33 rfl ?_
      exact ⟨rfl, cI_fin hc fq frR, Or.inr (Or.inr ⟨by omega, by omega, by omega, by omega, fq⟩)⟩
    · refine Z_bipush (n := 18) dX3_variable_16 rfl (by decide) (by decide) ?_
      refine Z_iret dX3_variable_18 rfl ?_
      exact ⟨rfl, hc, Or.inr (Or.inl ⟨by omega, by omega, by omega, rfl, rfl⟩)⟩
  · refine Z_iconst (n := 8) dX3_variable_7 rfl (by decide) ?_
    refine Z_iret dX3_variable_8 rfl ?_
    exact ⟨rfl, hc, Or.inl ⟨by omega, rfl, rfl⟩⟩
set_option maxRecDepth 20000 in
theorem zX3_combine_f {G : tl_G} {M : zM} {J : zJ} {h t f g : Int} (hc : cI M) (hb : CB M) : ZN G yX3_combine mX3_combine 13 kFc [vR 0, vI h, vI t, vI f, vI g] F1 M J (qI (fun x M' J' => J' = J ∧ cI M' ∧ (((h < 0 ∨ 12 ≤ h) ∧ x = -1 ∧ M' = M) ∨ (0 ≤ h ∧ h < 12 ∧ (t ≤ 0 ∨ 9 < t) ∧ x = -2 ∧ M' = M) ∨ (0 ≤ h ∧ h < 12 ∧ 0 < t ∧ t ≤ 9 ∧ ((3 ≤ t ∧ (f < 0 ∨ 12 ≤ f ∨ M 12 f = -1)) ∨ (3 < t ∧ (g < 0 ∨ 12 ≤ g ∨ M 12 g = -1))) ∧ x = -1 ∧ M' = M) ∨ (0 ≤ h ∧ h < 12 ∧ 0 < t ∧ t ≤ 9 ∧ ¬ ((3 ≤ t ∧ (f < 0 ∨ 12 ≤ f ∨ M 12 f = -1)) ∨ (3 < t ∧ (g < 0 ∨ 12 ≤ g ∨ M 12 g = -1))) ∧ finQ M h (okP M E0 (fun r => tbl (tabF t) (den M (if t < 3 then 0 else M 12 f) r) (den M (if t ≤ 3 then 0 else M 12 g) r) (den M 0 r))) (fun r => tbl (tabF t) (den M (if t < 3 then 0 else M 12 f) r) (den M (if t ≤ 3 then 0 else M 12 g) r) (den M 0 r)) x M')))) := by
  refine ZN_of (L := [_, _, _, _, _, _, _]) (by decide) rfl rfl (Nat.le_of_ble_eq_true rfl) rfl (fun hav => ?_)
  refine Z_iload_n (n := 1) dX3_combine_0 rfl rfl ?_
  refine Z_callSi (n := 4) [_] _ dX3_combine_1 rfl cwX3_123 rfl rfl (Nat.le_of_ble_eq_true rfl) (by refine ⟨?_, ?_, ?_, ?_⟩ <;> exact Nat.le_of_ble_eq_true rfl) (fun _ _ => trivial) (zX3_isHandle  ) ?_
  intro x1 M1 J1 z1 f1 q1
  obtain ⟨e1_1, e1_2, h1⟩ := q1
  replace e1_1 := e1_1.symm; subst e1_1
  replace e1_2 := e1_2.symm; subst e1_2
  refine Z_if_ne (n := 7) (t := 9) dX3_combine_4 rfl (by decide) (fun c4 => ?_) (fun c4 => ?_)
  · refine Z_iload_n (n := 10) dX3_combine_9 rfl rfl ?_
    refine Z_if_le (n := 13) (t := 19) dX3_combine_10 rfl (by decide) (fun c10 => ?_) (fun c10 => ?_)
    · refine Z_bipush (n := 21) dX3_combine_19 rfl (by decide) (by decide) ?_
      refine Z_iret dX3_combine_21 rfl ?_
      exact ⟨rfl, hc, Or.inr (Or.inl ⟨by omega, by omega, by omega, rfl, rfl⟩)⟩
    · refine Z_iload_n (n := 14) dX3_combine_13 rfl rfl ?_
      refine Z_bipush (n := 16) dX3_combine_14 rfl (by decide) (by decide) ?_
      refine Z_icmp_le (n := 19) (t := 22) dX3_combine_16 rfl (by decide) (fun c16 => ?_) (fun c16 => ?_)
      · have ct75 : ∀ (p q : Int) , (0 ≤ h) → (h < 12) → (0 < t) → (t ≤ 9) → (¬ ((3 ≤ t ∧ (f < 0 ∨ 12 ≤ f ∨ M 12 f = -1)) ∨ (3 < t ∧ (g < 0 ∨ 12 ≤ g ∨ M 12 g = -1)))) → ((p = 1 ∧ 3 ≤ t) ∨ (p = 0 ∧ t < 3)) → ((q = 1 ∧ 3 < t) ∨ (q = 0 ∧ t ≤ 3)) → TZ G mX3_combine (tl_rm 13 0 0) 0 0 kFc M J 75 [some (vR 0), some (vI h), some (vI t), some (vI f), some (vI g), some (vI p), some (vI q)] [] F1 M J (ZM G (zPost G kFc F1 M J (qI (fun x M' J' => J' = J ∧ cI M' ∧ (((h < 0 ∨ 12 ≤ h) ∧ x = -1 ∧ M' = M) ∨ (0 ≤ h ∧ h < 12 ∧ (t ≤ 0 ∨ 9 < t) ∧ x = -2 ∧ M' = M) ∨ (0 ≤ h ∧ h < 12 ∧ 0 < t ∧ t ≤ 9 ∧ ((3 ≤ t ∧ (f < 0 ∨ 12 ≤ f ∨ M 12 f = -1)) ∨ (3 < t ∧ (g < 0 ∨ 12 ≤ g ∨ M 12 g = -1))) ∧ x = -1 ∧ M' = M) ∨ (0 ≤ h ∧ h < 12 ∧ 0 < t ∧ t ≤ 9 ∧ ¬ ((3 ≤ t ∧ (f < 0 ∨ 12 ≤ f ∨ M 12 f = -1)) ∨ (3 < t ∧ (g < 0 ∨ 12 ≤ g ∨ M 12 g = -1))) ∧ finQ M h (okP M E0 (fun r => tbl (tabF t) (den M (if t < 3 then 0 else M 12 f) r) (den M (if t ≤ 3 then 0 else M 12 g) r) (den M 0 r))) (fun r => tbl (tabF t) (den M (if t < 3 then 0 else M 12 f) r) (den M (if t ≤ 3 then 0 else M 12 g) r) (den M 0 r)) x M'))))) 0 0) := by
          intro p q  i75_0 i75_1 i75_2 i75_3 i75_4 i75_5 i75_6
          refine Z_aload_n (n := 76) dX3_combine_75 rfl rfl ?_
          refine Z_callVv (n := 79) [] _ dX3_combine_76 rfl cwX3_126 rfl rfl (by first | rfl | exact nS0 (nA_at (by omega) (by omega))) (Nat.le_of_ble_eq_true rfl) (by refine ⟨?_, ?_, ?_, ?_⟩ <;> exact Nat.le_of_ble_eq_true rfl) (fun _ h => h) (zX3_beginSteps  (by decide)) ?_
          intro M76 J76 f76 q76
          obtain ⟨e76_1, e76_2⟩ := q76
          replace e76_1 := e76_1.symm; subst e76_1
          replace e76_2 := e76_2.symm; subst e76_2
          refine Z_nm (fun M76 e76 => ?_)
          have ob : ∀ a : Nat, ¬ a = 0 → M76 a = M a := fun a ha => by rw [e76]; exact uz_o ha
          have md0 : mid M M76 E0 := mid_0 hb ob (by rw [e76]; exact uz_n (by decide))
          have hdb : den M76 = den M := den_cg (ob 6 (by decide)) (ob 7 (by decide)) (ob 8 (by decide))
          have hOb : ordOK M76 := ordOK_fr hc.2.1 (ob 4 (by decide))
          have nb := mid_no md0
          obtain ⟨Sb, hSb, hRb⟩ := md0.1
          clear e76
          refine Z_aload_n (n := 80) dX3_combine_79 rfl rfl ?_
          refine Z_iload_n (n := 81) dX3_combine_80 rfl rfl ?_
          refine Z_aload_n (n := 82) dX3_combine_81 rfl rfl ?_
          refine Z_iload_n (n := 83) dX3_combine_82 rfl rfl ?_
          refine Z_iload (n := 85) dX3_combine_83 rfl rfl ?_
          refine Z_if_eq (n := 88) (t := 97) dX3_combine_85 rfl (by decide) (fun c85 => ?_) (fun c85 => ?_)
          · refine Z_iconst (n := 98) dX3_combine_97 rfl (by decide) ?_
            refine Z_iload (n := 100) dX3_combine_98 rfl rfl ?_
            refine Z_if_eq (n := 103) (t := 113) dX3_combine_100 rfl (by decide) (fun c100 => ?_) (fun c100 => ?_)
            · refine Z_iconst (n := 114) dX3_combine_113 rfl (by decide) ?_
              refine Z_iconst (n := 115) dX3_combine_114 rfl (by decide) ?_
              refine Z_callVi (n := 118) [_, _, _, _] _ dX3_combine_115 rfl cwX3_142 rfl rfl (by first | rfl | exact nS0 (nA_at (by omega) (by omega))) (Nat.le_of_ble_eq_true rfl) (by refine ⟨?_, ?_, ?_, ?_⟩ <;> exact Nat.le_of_ble_eq_true rfl) (fun a h => by unfold kFc at h; unfold kSt1; omega) (zX3_kindStep_f  (by omega) (by omega) (by first | exact Or.inr (Or.inl rfl) | exact Or.inr (Or.inr (Or.inr ⟨Or.inl ⟨f, ⟨by omega, by omega⟩, rfl⟩, by rw [ob 12 (by decide)]; omega⟩))) (by first | exact Or.inr (Or.inl rfl) | exact Or.inr (Or.inr (Or.inr ⟨Or.inl ⟨g, ⟨by omega, by omega⟩, rfl⟩, by rw [ob 12 (by decide)]; omega⟩))) (by exact Or.inr (Or.inl rfl)) (by exact hSb) (by exact hRb) (by exact nb)) ?_
              intro x115 M115 J115 z115 f115 q115
              obtain ⟨e115_1, sq115⟩ := q115
              replace e115_1 := e115_1.symm; subst e115_1
              have e12f : M76 12 f = M 12 f := by rw [ob 12 (by decide)]
              have e12g : M76 12 g = M 12 g := by rw [ob 12 (by decide)]
              have sqX := (sq115.resolve_left (fun z => by omega)).2
              try rw [e12f] at sqX
              try rw [e12g] at sqX
              rw [hdb] at sqX
              obtain ⟨md1, rs1, S1, hS1, hR1, hx1⟩ := mid_st md0 sqX (f115 12 (by decide)).1 (f115 13 (by decide)).1 (f115 15 (by decide)).1
              refine Z_callVi (n := 121) [_, _] _ dX3_combine_118 rfl cwX3_133 rfl rfl (by first | rfl | exact nS0 (nA_at (by omega) (by omega))) (Nat.le_of_ble_eq_true rfl) (by refine ⟨?_, ?_, ?_, ?_⟩ <;> exact Nat.le_of_ble_eq_true rfl) (fun a h => by unfold kFc at h; unfold kGive; omega) (zX3_give_f  (by omega) (by omega) (by exact hS1.1) (by exact hx1)) ?_
              intro x118 M118 J118 z118 f118 q118
              obtain ⟨e118_1, ng118, gv118⟩ := q118
              replace e118_1 := e118_1.symm; subst e118_1
              refine Z_fr (fun frR => ?_)
              have fq := fin_mk md1 (by omega) (by omega) hS1 hR1 hx1 (rs_ok rs1).1 (rs_ok rs1).2 (fun a h1 h2 h3 h4 => (f118 a ⟨h1, h2, h3, h4⟩).1) ng118 gv118
              refine Z_iret dX3_combine_121 rfl ?_
              refine ⟨rfl, cI_fin hc fq frR, Or.inr (Or.inr (Or.inr ⟨by omega, by omega, by omega, by omega, by omega, ?_⟩))⟩
              first
                | (rw [if_pos (show t < 3 by omega), if_pos (show t ≤ 3 by omega)]; exact fq)
                | (rw [if_neg (show ¬ t < 3 by omega), if_pos (show t ≤ 3 by omega)]; exact fq)
                | (rw [if_neg (show ¬ t < 3 by omega), if_neg (show ¬ t ≤ 3 by omega)]; exact fq)
                | (exfalso; omega)
            · refine Z_aload_n (n := 104) dX3_combine_103 rfl rfl ?_
              refine Z_getA (n := 107) dX3_combine_104 rfl ffX3_29 (by first | rfl | exact nS0 (nA_at (by omega) (by omega))) (by first | rfl | exact nS0 (nA_at (by omega) (by omega))) ?_
              refine Z_iload (n := 109) dX3_combine_107 rfl rfl ?_
              refine Z_iald (n := 110) dX3_combine_109 rfl (by first | rfl | exact nS0 (nA_at (by omega) (by omega))) rfl (by first | decide | assumption) (by omega) (by omega) (fun r109 s109 => ?_)
              refine Z_goto (t := 114) dX3_combine_110 (by decide) ?_
              refine Z_iconst (n := 115) dX3_combine_114 rfl (by decide) ?_
              refine Z_callVi (n := 118) [_, _, _, _] _ dX3_combine_115 rfl cwX3_142 rfl rfl (by first | rfl | exact nS0 (nA_at (by omega) (by omega))) (Nat.le_of_ble_eq_true rfl) (by refine ⟨?_, ?_, ?_, ?_⟩ <;> exact Nat.le_of_ble_eq_true rfl) (fun a h => by unfold kFc at h; unfold kSt1; omega) (zX3_kindStep_f  (by omega) (by omega) (by first | exact Or.inr (Or.inl rfl) | exact Or.inr (Or.inr (Or.inr ⟨Or.inl ⟨f, ⟨by omega, by omega⟩, rfl⟩, by rw [ob 12 (by decide)]; omega⟩))) (by first | exact Or.inr (Or.inl rfl) | exact Or.inr (Or.inr (Or.inr ⟨Or.inl ⟨g, ⟨by omega, by omega⟩, rfl⟩, by rw [ob 12 (by decide)]; omega⟩))) (by exact Or.inr (Or.inl rfl)) (by exact hSb) (by exact hRb) (by exact nb)) ?_
              intro x115 M115 J115 z115 f115 q115
              obtain ⟨e115_1, sq115⟩ := q115
              replace e115_1 := e115_1.symm; subst e115_1
              have e12f : M76 12 f = M 12 f := by rw [ob 12 (by decide)]
              have e12g : M76 12 g = M 12 g := by rw [ob 12 (by decide)]
              have sqX := (sq115.resolve_left (fun z => by omega)).2
              try rw [e12f] at sqX
              try rw [e12g] at sqX
              rw [hdb] at sqX
              obtain ⟨md1, rs1, S1, hS1, hR1, hx1⟩ := mid_st md0 sqX (f115 12 (by decide)).1 (f115 13 (by decide)).1 (f115 15 (by decide)).1
              refine Z_callVi (n := 121) [_, _] _ dX3_combine_118 rfl cwX3_133 rfl rfl (by first | rfl | exact nS0 (nA_at (by omega) (by omega))) (Nat.le_of_ble_eq_true rfl) (by refine ⟨?_, ?_, ?_, ?_⟩ <;> exact Nat.le_of_ble_eq_true rfl) (fun a h => by unfold kFc at h; unfold kGive; omega) (zX3_give_f  (by omega) (by omega) (by exact hS1.1) (by exact hx1)) ?_
              intro x118 M118 J118 z118 f118 q118
              obtain ⟨e118_1, ng118, gv118⟩ := q118
              replace e118_1 := e118_1.symm; subst e118_1
              refine Z_fr (fun frR => ?_)
              have fq := fin_mk md1 (by omega) (by omega) hS1 hR1 hx1 (rs_ok rs1).1 (rs_ok rs1).2 (fun a h1 h2 h3 h4 => (f118 a ⟨h1, h2, h3, h4⟩).1) ng118 gv118
              refine Z_iret dX3_combine_121 rfl ?_
              refine ⟨rfl, cI_fin hc fq frR, Or.inr (Or.inr (Or.inr ⟨by omega, by omega, by omega, by omega, by omega, ?_⟩))⟩
              first
                | (rw [if_pos (show t < 3 by omega), if_pos (show t ≤ 3 by omega)]; exact fq)
                | (rw [if_neg (show ¬ t < 3 by omega), if_pos (show t ≤ 3 by omega)]; exact fq)
                | (rw [if_neg (show ¬ t < 3 by omega), if_neg (show ¬ t ≤ 3 by omega)]; exact fq)
                | (exfalso; omega)
          · refine Z_aload_n (n := 89) dX3_combine_88 rfl rfl ?_
            refine Z_getA (n := 92) dX3_combine_89 rfl ffX3_29 (by first | rfl | exact nS0 (nA_at (by omega) (by omega))) (by first | rfl | exact nS0 (nA_at (by omega) (by omega))) ?_
            refine Z_iload_n (n := 93) dX3_combine_92 rfl rfl ?_
            refine Z_iald (n := 94) dX3_combine_93 rfl (by first | rfl | exact nS0 (nA_at (by omega) (by omega))) rfl (by first | decide | assumption) (by omega) (by omega) (fun r93 s93 => ?_)
            refine Z_goto (t := 98) dX3_combine_94 (by decide) ?_
            refine Z_iload (n := 100) dX3_combine_98 rfl rfl ?_
            refine Z_if_eq (n := 103) (t := 113) dX3_combine_100 rfl (by decide) (fun c100 => ?_) (fun c100 => ?_)
            · refine Z_iconst (n := 114) dX3_combine_113 rfl (by decide) ?_
              refine Z_iconst (n := 115) dX3_combine_114 rfl (by decide) ?_
              refine Z_callVi (n := 118) [_, _, _, _] _ dX3_combine_115 rfl cwX3_142 rfl rfl (by first | rfl | exact nS0 (nA_at (by omega) (by omega))) (Nat.le_of_ble_eq_true rfl) (by refine ⟨?_, ?_, ?_, ?_⟩ <;> exact Nat.le_of_ble_eq_true rfl) (fun a h => by unfold kFc at h; unfold kSt1; omega) (zX3_kindStep_f  (by omega) (by omega) (by first | exact Or.inr (Or.inl rfl) | exact Or.inr (Or.inr (Or.inr ⟨Or.inl ⟨f, ⟨by omega, by omega⟩, rfl⟩, by rw [ob 12 (by decide)]; omega⟩))) (by first | exact Or.inr (Or.inl rfl) | exact Or.inr (Or.inr (Or.inr ⟨Or.inl ⟨g, ⟨by omega, by omega⟩, rfl⟩, by rw [ob 12 (by decide)]; omega⟩))) (by exact Or.inr (Or.inl rfl)) (by exact hSb) (by exact hRb) (by exact nb)) ?_
              intro x115 M115 J115 z115 f115 q115
              obtain ⟨e115_1, sq115⟩ := q115
              replace e115_1 := e115_1.symm; subst e115_1
              have e12f : M76 12 f = M 12 f := by rw [ob 12 (by decide)]
              have e12g : M76 12 g = M 12 g := by rw [ob 12 (by decide)]
              have sqX := (sq115.resolve_left (fun z => by omega)).2
              try rw [e12f] at sqX
              try rw [e12g] at sqX
              rw [hdb] at sqX
              obtain ⟨md1, rs1, S1, hS1, hR1, hx1⟩ := mid_st md0 sqX (f115 12 (by decide)).1 (f115 13 (by decide)).1 (f115 15 (by decide)).1
              refine Z_callVi (n := 121) [_, _] _ dX3_combine_118 rfl cwX3_133 rfl rfl (by first | rfl | exact nS0 (nA_at (by omega) (by omega))) (Nat.le_of_ble_eq_true rfl) (by refine ⟨?_, ?_, ?_, ?_⟩ <;> exact Nat.le_of_ble_eq_true rfl) (fun a h => by unfold kFc at h; unfold kGive; omega) (zX3_give_f  (by omega) (by omega) (by exact hS1.1) (by exact hx1)) ?_
              intro x118 M118 J118 z118 f118 q118
              obtain ⟨e118_1, ng118, gv118⟩ := q118
              replace e118_1 := e118_1.symm; subst e118_1
              refine Z_fr (fun frR => ?_)
              have fq := fin_mk md1 (by omega) (by omega) hS1 hR1 hx1 (rs_ok rs1).1 (rs_ok rs1).2 (fun a h1 h2 h3 h4 => (f118 a ⟨h1, h2, h3, h4⟩).1) ng118 gv118
              refine Z_iret dX3_combine_121 rfl ?_
              refine ⟨rfl, cI_fin hc fq frR, Or.inr (Or.inr (Or.inr ⟨by omega, by omega, by omega, by omega, by omega, ?_⟩))⟩
              first
                | (rw [if_pos (show t < 3 by omega), if_pos (show t ≤ 3 by omega)]; exact fq)
                | (rw [if_neg (show ¬ t < 3 by omega), if_pos (show t ≤ 3 by omega)]; exact fq)
                | (rw [if_neg (show ¬ t < 3 by omega), if_neg (show ¬ t ≤ 3 by omega)]; exact fq)
                | (exfalso; omega)
            · refine Z_aload_n (n := 104) dX3_combine_103 rfl rfl ?_
              refine Z_getA (n := 107) dX3_combine_104 rfl ffX3_29 (by first | rfl | exact nS0 (nA_at (by omega) (by omega))) (by first | rfl | exact nS0 (nA_at (by omega) (by omega))) ?_
              refine Z_iload (n := 109) dX3_combine_107 rfl rfl ?_
              refine Z_iald (n := 110) dX3_combine_109 rfl (by first | rfl | exact nS0 (nA_at (by omega) (by omega))) rfl (by first | decide | assumption) (by omega) (by omega) (fun r109 s109 => ?_)
              refine Z_goto (t := 114) dX3_combine_110 (by decide) ?_
              refine Z_iconst (n := 115) dX3_combine_114 rfl (by decide) ?_
              refine Z_callVi (n := 118) [_, _, _, _] _ dX3_combine_115 rfl cwX3_142 rfl rfl (by first | rfl | exact nS0 (nA_at (by omega) (by omega))) (Nat.le_of_ble_eq_true rfl) (by refine ⟨?_, ?_, ?_, ?_⟩ <;> exact Nat.le_of_ble_eq_true rfl) (fun a h => by unfold kFc at h; unfold kSt1; omega) (zX3_kindStep_f  (by omega) (by omega) (by first | exact Or.inr (Or.inl rfl) | exact Or.inr (Or.inr (Or.inr ⟨Or.inl ⟨f, ⟨by omega, by omega⟩, rfl⟩, by rw [ob 12 (by decide)]; omega⟩))) (by first | exact Or.inr (Or.inl rfl) | exact Or.inr (Or.inr (Or.inr ⟨Or.inl ⟨g, ⟨by omega, by omega⟩, rfl⟩, by rw [ob 12 (by decide)]; omega⟩))) (by exact Or.inr (Or.inl rfl)) (by exact hSb) (by exact hRb) (by exact nb)) ?_
              intro x115 M115 J115 z115 f115 q115
              obtain ⟨e115_1, sq115⟩ := q115
              replace e115_1 := e115_1.symm; subst e115_1
              have e12f : M76 12 f = M 12 f := by rw [ob 12 (by decide)]
              have e12g : M76 12 g = M 12 g := by rw [ob 12 (by decide)]
              have sqX := (sq115.resolve_left (fun z => by omega)).2
              try rw [e12f] at sqX
              try rw [e12g] at sqX
              rw [hdb] at sqX
              obtain ⟨md1, rs1, S1, hS1, hR1, hx1⟩ := mid_st md0 sqX (f115 12 (by decide)).1 (f115 13 (by decide)).1 (f115 15 (by decide)).1
              refine Z_callVi (n := 121) [_, _] _ dX3_combine_118 rfl cwX3_133 rfl rfl (by first | rfl | exact nS0 (nA_at (by omega) (by omega))) (Nat.le_of_ble_eq_true rfl) (by refine ⟨?_, ?_, ?_, ?_⟩ <;> exact Nat.le_of_ble_eq_true rfl) (fun a h => by unfold kFc at h; unfold kGive; omega) (zX3_give_f  (by omega) (by omega) (by exact hS1.1) (by exact hx1)) ?_
              intro x118 M118 J118 z118 f118 q118
              obtain ⟨e118_1, ng118, gv118⟩ := q118
              replace e118_1 := e118_1.symm; subst e118_1
              refine Z_fr (fun frR => ?_)
              have fq := fin_mk md1 (by omega) (by omega) hS1 hR1 hx1 (rs_ok rs1).1 (rs_ok rs1).2 (fun a h1 h2 h3 h4 => (f118 a ⟨h1, h2, h3, h4⟩).1) ng118 gv118
              refine Z_iret dX3_combine_121 rfl ?_
              refine ⟨rfl, cI_fin hc fq frR, Or.inr (Or.inr (Or.inr ⟨by omega, by omega, by omega, by omega, by omega, ?_⟩))⟩
              first
                | (rw [if_pos (show t < 3 by omega), if_pos (show t ≤ 3 by omega)]; exact fq)
                | (rw [if_neg (show ¬ t < 3 by omega), if_pos (show t ≤ 3 by omega)]; exact fq)
                | (rw [if_neg (show ¬ t < 3 by omega), if_neg (show ¬ t ≤ 3 by omega)]; exact fq)
                | (exfalso; omega)
        refine Z_iload_n (n := 23) dX3_combine_22 rfl rfl ?_
        refine Z_iconst (n := 24) dX3_combine_23 rfl (by decide) ?_
        refine Z_icmp_lt (n := 27) (t := 31) dX3_combine_24 rfl (by decide) (fun c24 => ?_) (fun c24 => ?_)
        · refine Z_iconst (n := 32) dX3_combine_31 rfl (by decide) ?_
          refine Z_istore (L' := [_, _, _, _, _, _, _]) (n := 34) dX3_combine_32 rfl (by decide) rfl rfl ?_
          refine Z_iload_n (n := 35) dX3_combine_34 rfl rfl ?_
          refine Z_iconst (n := 36) dX3_combine_35 rfl (by decide) ?_
          refine Z_icmp_le (n := 39) (t := 43) dX3_combine_36 rfl (by decide) (fun c36 => ?_) (fun c36 => ?_)
          · refine Z_iconst (n := 44) dX3_combine_43 rfl (by decide) ?_
            refine Z_istore (L' := [_, _, _, _, _, _, _]) (n := 46) dX3_combine_44 rfl (by decide) rfl rfl ?_
            refine Z_iload (n := 48) dX3_combine_46 rfl rfl ?_
            refine Z_if_eq (n := 51) (t := 59) dX3_combine_48 rfl (by decide) (fun c48 => ?_) (fun c48 => ?_)
            · refine Z_iload (n := 61) dX3_combine_59 rfl rfl ?_
              refine Z_if_eq (n := 64) (t := 75) dX3_combine_61 rfl (by decide) (fun c61 => ?_) (fun c61 => ?_)
              · refine Z_loc (L' := [some _, some _, some _, some _, some _, some _, some _]) (lsub_same (lsub_same (lsub_same (lsub_same (lsub_same (lsub_same (lsub_same lsub_nil))))))) ?_
                exact ct75 _ _  (by first | assumption | omega | decide) (by first | assumption | omega | decide) (by first | assumption | omega | decide) (by first | assumption | omega | decide) (by first | assumption | omega | decide) (by first | assumption | omega | decide) (by first | assumption | omega | decide)
              · refine Z_aload_n (n := 65) dX3_combine_64 rfl rfl ?_
                refine Z_iload (n := 67) dX3_combine_65 rfl rfl ?_
                refine Z_callVi (n := 70) [_] _ dX3_combine_67 rfl cwX3_139 rfl rfl (by first | rfl | exact nS0 (nA_at (by omega) (by omega))) (Nat.le_of_ble_eq_true rfl) (by refine ⟨?_, ?_, ?_, ?_⟩ <;> exact Nat.le_of_ble_eq_true rfl) (fun _ _ => trivial) (zX3_hasFunction  ) ?_
                intro x67 M67 J67 z67 f67 q67
                obtain ⟨e67_1, e67_2, h67⟩ := q67
                replace e67_1 := e67_1.symm; subst e67_1
                replace e67_2 := e67_2.symm; subst e67_2
                refine Z_if_ne (n := 73) (t := 75) dX3_combine_70 rfl (by decide) (fun c70 => ?_) (fun c70 => ?_)
                · refine Z_loc (L' := [some _, some _, some _, some _, some _, some _, some _]) (lsub_same (lsub_same (lsub_same (lsub_same (lsub_same (lsub_same (lsub_same lsub_nil))))))) ?_
                  exact ct75 _ _  (by first | assumption | omega | decide) (by first | assumption | omega | decide) (by first | assumption | omega | decide) (by first | assumption | omega | decide) (by first | assumption | omega | decide) (by first | assumption | omega | decide) (by first | assumption | omega | decide)
                · refine Z_iconst (n := 74) dX3_combine_73 rfl (by decide) ?_
                  refine Z_iret dX3_combine_74 rfl ?_
                  exact ⟨rfl, hc, Or.inr (Or.inr (Or.inl ⟨by omega, by omega, by omega, by omega, by omega, rfl, rfl⟩))⟩
            · refine Z_aload_n (n := 52) dX3_combine_51 rfl rfl ?_
              refine Z_iload_n (n := 53) dX3_combine_52 rfl rfl ?_
              refine Z_callVi (n := 56) [_] _ dX3_combine_53 rfl cwX3_139 rfl rfl (by first | rfl | exact nS0 (nA_at (by omega) (by omega))) (Nat.le_of_ble_eq_true rfl) (by refine ⟨?_, ?_, ?_, ?_⟩ <;> exact Nat.le_of_ble_eq_true rfl) (fun _ _ => trivial) (zX3_hasFunction  ) ?_
              intro x53 M53 J53 z53 f53 q53
              obtain ⟨e53_1, e53_2, h53⟩ := q53
              replace e53_1 := e53_1.symm; subst e53_1
              replace e53_2 := e53_2.symm; subst e53_2
              refine Z_if_eq (n := 59) (t := 73) dX3_combine_56 rfl (by decide) (fun c56 => ?_) (fun c56 => ?_)
              · refine Z_iconst (n := 74) dX3_combine_73 rfl (by decide) ?_
                refine Z_iret dX3_combine_74 rfl ?_
                exact ⟨rfl, hc, Or.inr (Or.inr (Or.inl ⟨by omega, by omega, by omega, by omega, by omega, rfl, rfl⟩))⟩
              · refine Z_iload (n := 61) dX3_combine_59 rfl rfl ?_
                refine Z_if_eq (n := 64) (t := 75) dX3_combine_61 rfl (by decide) (fun c61 => ?_) (fun c61 => ?_)
                · refine Z_loc (L' := [some _, some _, some _, some _, some _, some _, some _]) (lsub_same (lsub_same (lsub_same (lsub_same (lsub_same (lsub_same (lsub_same lsub_nil))))))) ?_
                  exact ct75 _ _  (by first | assumption | omega | decide) (by first | assumption | omega | decide) (by first | assumption | omega | decide) (by first | assumption | omega | decide) (by first | assumption | omega | decide) (by first | assumption | omega | decide) (by first | assumption | omega | decide)
                · refine Z_aload_n (n := 65) dX3_combine_64 rfl rfl ?_
                  refine Z_iload (n := 67) dX3_combine_65 rfl rfl ?_
                  refine Z_callVi (n := 70) [_] _ dX3_combine_67 rfl cwX3_139 rfl rfl (by first | rfl | exact nS0 (nA_at (by omega) (by omega))) (Nat.le_of_ble_eq_true rfl) (by refine ⟨?_, ?_, ?_, ?_⟩ <;> exact Nat.le_of_ble_eq_true rfl) (fun _ _ => trivial) (zX3_hasFunction  ) ?_
                  intro x67 M67 J67 z67 f67 q67
                  obtain ⟨e67_1, e67_2, h67⟩ := q67
                  replace e67_1 := e67_1.symm; subst e67_1
                  replace e67_2 := e67_2.symm; subst e67_2
                  refine Z_if_ne (n := 73) (t := 75) dX3_combine_70 rfl (by decide) (fun c70 => ?_) (fun c70 => ?_)
                  · refine Z_loc (L' := [some _, some _, some _, some _, some _, some _, some _]) (lsub_same (lsub_same (lsub_same (lsub_same (lsub_same (lsub_same (lsub_same lsub_nil))))))) ?_
                    exact ct75 _ _  (by first | assumption | omega | decide) (by first | assumption | omega | decide) (by first | assumption | omega | decide) (by first | assumption | omega | decide) (by first | assumption | omega | decide) (by first | assumption | omega | decide) (by first | assumption | omega | decide)
                  · refine Z_iconst (n := 74) dX3_combine_73 rfl (by decide) ?_
                    refine Z_iret dX3_combine_74 rfl ?_
                    exact ⟨rfl, hc, Or.inr (Or.inr (Or.inl ⟨by omega, by omega, by omega, by omega, by omega, rfl, rfl⟩))⟩
          · refine Z_iconst (n := 40) dX3_combine_39 rfl (by decide) ?_
            refine Z_goto (t := 44) dX3_combine_40 (by decide) ?_
            refine Z_istore (L' := [_, _, _, _, _, _, _]) (n := 46) dX3_combine_44 rfl (by decide) rfl rfl ?_
            refine Z_iload (n := 48) dX3_combine_46 rfl rfl ?_
            refine Z_if_eq (n := 51) (t := 59) dX3_combine_48 rfl (by decide) (fun c48 => ?_) (fun c48 => ?_)
            · refine Z_iload (n := 61) dX3_combine_59 rfl rfl ?_
              refine Z_if_eq (n := 64) (t := 75) dX3_combine_61 rfl (by decide) (fun c61 => ?_) (fun c61 => ?_)
              · refine Z_loc (L' := [some _, some _, some _, some _, some _, some _, some _]) (lsub_same (lsub_same (lsub_same (lsub_same (lsub_same (lsub_same (lsub_same lsub_nil))))))) ?_
                exact ct75 _ _  (by first | assumption | omega | decide) (by first | assumption | omega | decide) (by first | assumption | omega | decide) (by first | assumption | omega | decide) (by first | assumption | omega | decide) (by first | assumption | omega | decide) (by first | assumption | omega | decide)
              · refine Z_aload_n (n := 65) dX3_combine_64 rfl rfl ?_
                refine Z_iload (n := 67) dX3_combine_65 rfl rfl ?_
                refine Z_callVi (n := 70) [_] _ dX3_combine_67 rfl cwX3_139 rfl rfl (by first | rfl | exact nS0 (nA_at (by omega) (by omega))) (Nat.le_of_ble_eq_true rfl) (by refine ⟨?_, ?_, ?_, ?_⟩ <;> exact Nat.le_of_ble_eq_true rfl) (fun _ _ => trivial) (zX3_hasFunction  ) ?_
                intro x67 M67 J67 z67 f67 q67
                obtain ⟨e67_1, e67_2, h67⟩ := q67
                replace e67_1 := e67_1.symm; subst e67_1
                replace e67_2 := e67_2.symm; subst e67_2
                refine Z_if_ne (n := 73) (t := 75) dX3_combine_70 rfl (by decide) (fun c70 => ?_) (fun c70 => ?_)
                · refine Z_loc (L' := [some _, some _, some _, some _, some _, some _, some _]) (lsub_same (lsub_same (lsub_same (lsub_same (lsub_same (lsub_same (lsub_same lsub_nil))))))) ?_
                  exact ct75 _ _  (by first | assumption | omega | decide) (by first | assumption | omega | decide) (by first | assumption | omega | decide) (by first | assumption | omega | decide) (by first | assumption | omega | decide) (by first | assumption | omega | decide) (by first | assumption | omega | decide)
                · refine Z_iconst (n := 74) dX3_combine_73 rfl (by decide) ?_
                  refine Z_iret dX3_combine_74 rfl ?_
                  exact ⟨rfl, hc, Or.inr (Or.inr (Or.inl ⟨by omega, by omega, by omega, by omega, by omega, rfl, rfl⟩))⟩
            · refine Z_aload_n (n := 52) dX3_combine_51 rfl rfl ?_
              refine Z_iload_n (n := 53) dX3_combine_52 rfl rfl ?_
              refine Z_callVi (n := 56) [_] _ dX3_combine_53 rfl cwX3_139 rfl rfl (by first | rfl | exact nS0 (nA_at (by omega) (by omega))) (Nat.le_of_ble_eq_true rfl) (by refine ⟨?_, ?_, ?_, ?_⟩ <;> exact Nat.le_of_ble_eq_true rfl) (fun _ _ => trivial) (zX3_hasFunction  ) ?_
              intro x53 M53 J53 z53 f53 q53
              obtain ⟨e53_1, e53_2, h53⟩ := q53
              replace e53_1 := e53_1.symm; subst e53_1
              replace e53_2 := e53_2.symm; subst e53_2
              refine Z_if_eq (n := 59) (t := 73) dX3_combine_56 rfl (by decide) (fun c56 => ?_) (fun c56 => ?_)
              · refine Z_iconst (n := 74) dX3_combine_73 rfl (by decide) ?_
                refine Z_iret dX3_combine_74 rfl ?_
                exact ⟨rfl, hc, Or.inr (Or.inr (Or.inl ⟨by omega, by omega, by omega, by omega, by omega, rfl, rfl⟩))⟩
              · refine Z_iload (n := 61) dX3_combine_59 rfl rfl ?_
                refine Z_if_eq (n := 64) (t := 75) dX3_combine_61 rfl (by decide) (fun c61 => ?_) (fun c61 => ?_)
                · refine Z_loc (L' := [some _, some _, some _, some _, some _, some _, some _]) (lsub_same (lsub_same (lsub_same (lsub_same (lsub_same (lsub_same (lsub_same lsub_nil))))))) ?_
                  exact ct75 _ _  (by first | assumption | omega | decide) (by first | assumption | omega | decide) (by first | assumption | omega | decide) (by first | assumption | omega | decide) (by first | assumption | omega | decide) (by first | assumption | omega | decide) (by first | assumption | omega | decide)
                · refine Z_aload_n (n := 65) dX3_combine_64 rfl rfl ?_
                  refine Z_iload (n := 67) dX3_combine_65 rfl rfl ?_
                  refine Z_callVi (n := 70) [_] _ dX3_combine_67 rfl cwX3_139 rfl rfl (by first | rfl | exact nS0 (nA_at (by omega) (by omega))) (Nat.le_of_ble_eq_true rfl) (by refine ⟨?_, ?_, ?_, ?_⟩ <;> exact Nat.le_of_ble_eq_true rfl) (fun _ _ => trivial) (zX3_hasFunction  ) ?_
                  intro x67 M67 J67 z67 f67 q67
                  obtain ⟨e67_1, e67_2, h67⟩ := q67
                  replace e67_1 := e67_1.symm; subst e67_1
                  replace e67_2 := e67_2.symm; subst e67_2
                  refine Z_if_ne (n := 73) (t := 75) dX3_combine_70 rfl (by decide) (fun c70 => ?_) (fun c70 => ?_)
                  · refine Z_loc (L' := [some _, some _, some _, some _, some _, some _, some _]) (lsub_same (lsub_same (lsub_same (lsub_same (lsub_same (lsub_same (lsub_same lsub_nil))))))) ?_
                    exact ct75 _ _  (by first | assumption | omega | decide) (by first | assumption | omega | decide) (by first | assumption | omega | decide) (by first | assumption | omega | decide) (by first | assumption | omega | decide) (by first | assumption | omega | decide) (by first | assumption | omega | decide)
                  · refine Z_iconst (n := 74) dX3_combine_73 rfl (by decide) ?_
                    refine Z_iret dX3_combine_74 rfl ?_
                    exact ⟨rfl, hc, Or.inr (Or.inr (Or.inl ⟨by omega, by omega, by omega, by omega, by omega, rfl, rfl⟩))⟩
        · refine Z_iconst (n := 28) dX3_combine_27 rfl (by decide) ?_
          refine Z_goto (t := 32) dX3_combine_28 (by decide) ?_
          refine Z_istore (L' := [_, _, _, _, _, _, _]) (n := 34) dX3_combine_32 rfl (by decide) rfl rfl ?_
          refine Z_iload_n (n := 35) dX3_combine_34 rfl rfl ?_
          refine Z_iconst (n := 36) dX3_combine_35 rfl (by decide) ?_
          refine Z_icmp_le (n := 39) (t := 43) dX3_combine_36 rfl (by decide) (fun c36 => ?_) (fun c36 => ?_)
          · refine Z_iconst (n := 44) dX3_combine_43 rfl (by decide) ?_
            refine Z_istore (L' := [_, _, _, _, _, _, _]) (n := 46) dX3_combine_44 rfl (by decide) rfl rfl ?_
            refine Z_iload (n := 48) dX3_combine_46 rfl rfl ?_
            refine Z_if_eq (n := 51) (t := 59) dX3_combine_48 rfl (by decide) (fun c48 => ?_) (fun c48 => ?_)
            · refine Z_iload (n := 61) dX3_combine_59 rfl rfl ?_
              refine Z_if_eq (n := 64) (t := 75) dX3_combine_61 rfl (by decide) (fun c61 => ?_) (fun c61 => ?_)
              · refine Z_loc (L' := [some _, some _, some _, some _, some _, some _, some _]) (lsub_same (lsub_same (lsub_same (lsub_same (lsub_same (lsub_same (lsub_same lsub_nil))))))) ?_
                exact ct75 _ _  (by first | assumption | omega | decide) (by first | assumption | omega | decide) (by first | assumption | omega | decide) (by first | assumption | omega | decide) (by first | assumption | omega | decide) (by first | assumption | omega | decide) (by first | assumption | omega | decide)
              · refine Z_aload_n (n := 65) dX3_combine_64 rfl rfl ?_
                refine Z_iload (n := 67) dX3_combine_65 rfl rfl ?_
                refine Z_callVi (n := 70) [_] _ dX3_combine_67 rfl cwX3_139 rfl rfl (by first | rfl | exact nS0 (nA_at (by omega) (by omega))) (Nat.le_of_ble_eq_true rfl) (by refine ⟨?_, ?_, ?_, ?_⟩ <;> exact Nat.le_of_ble_eq_true rfl) (fun _ _ => trivial) (zX3_hasFunction  ) ?_
                intro x67 M67 J67 z67 f67 q67
                obtain ⟨e67_1, e67_2, h67⟩ := q67
                replace e67_1 := e67_1.symm; subst e67_1
                replace e67_2 := e67_2.symm; subst e67_2
                refine Z_if_ne (n := 73) (t := 75) dX3_combine_70 rfl (by decide) (fun c70 => ?_) (fun c70 => ?_)
                · refine Z_loc (L' := [some _, some _, some _, some _, some _, some _, some _]) (lsub_same (lsub_same (lsub_same (lsub_same (lsub_same (lsub_same (lsub_same lsub_nil))))))) ?_
                  exact ct75 _ _  (by first | assumption | omega | decide) (by first | assumption | omega | decide) (by first | assumption | omega | decide) (by first | assumption | omega | decide) (by first | assumption | omega | decide) (by first | assumption | omega | decide) (by first | assumption | omega | decide)
                · refine Z_iconst (n := 74) dX3_combine_73 rfl (by decide) ?_
                  refine Z_iret dX3_combine_74 rfl ?_
                  exact ⟨rfl, hc, Or.inr (Or.inr (Or.inl ⟨by omega, by omega, by omega, by omega, by omega, rfl, rfl⟩))⟩
            · refine Z_aload_n (n := 52) dX3_combine_51 rfl rfl ?_
              refine Z_iload_n (n := 53) dX3_combine_52 rfl rfl ?_
              refine Z_callVi (n := 56) [_] _ dX3_combine_53 rfl cwX3_139 rfl rfl (by first | rfl | exact nS0 (nA_at (by omega) (by omega))) (Nat.le_of_ble_eq_true rfl) (by refine ⟨?_, ?_, ?_, ?_⟩ <;> exact Nat.le_of_ble_eq_true rfl) (fun _ _ => trivial) (zX3_hasFunction  ) ?_
              intro x53 M53 J53 z53 f53 q53
              obtain ⟨e53_1, e53_2, h53⟩ := q53
              replace e53_1 := e53_1.symm; subst e53_1
              replace e53_2 := e53_2.symm; subst e53_2
              refine Z_if_eq (n := 59) (t := 73) dX3_combine_56 rfl (by decide) (fun c56 => ?_) (fun c56 => ?_)
              · refine Z_iconst (n := 74) dX3_combine_73 rfl (by decide) ?_
                refine Z_iret dX3_combine_74 rfl ?_
                exact ⟨rfl, hc, Or.inr (Or.inr (Or.inl ⟨by omega, by omega, by omega, by omega, by omega, rfl, rfl⟩))⟩
              · refine Z_iload (n := 61) dX3_combine_59 rfl rfl ?_
                refine Z_if_eq (n := 64) (t := 75) dX3_combine_61 rfl (by decide) (fun c61 => ?_) (fun c61 => ?_)
                · refine Z_loc (L' := [some _, some _, some _, some _, some _, some _, some _]) (lsub_same (lsub_same (lsub_same (lsub_same (lsub_same (lsub_same (lsub_same lsub_nil))))))) ?_
                  exact ct75 _ _  (by first | assumption | omega | decide) (by first | assumption | omega | decide) (by first | assumption | omega | decide) (by first | assumption | omega | decide) (by first | assumption | omega | decide) (by first | assumption | omega | decide) (by first | assumption | omega | decide)
                · refine Z_aload_n (n := 65) dX3_combine_64 rfl rfl ?_
                  refine Z_iload (n := 67) dX3_combine_65 rfl rfl ?_
                  refine Z_callVi (n := 70) [_] _ dX3_combine_67 rfl cwX3_139 rfl rfl (by first | rfl | exact nS0 (nA_at (by omega) (by omega))) (Nat.le_of_ble_eq_true rfl) (by refine ⟨?_, ?_, ?_, ?_⟩ <;> exact Nat.le_of_ble_eq_true rfl) (fun _ _ => trivial) (zX3_hasFunction  ) ?_
                  intro x67 M67 J67 z67 f67 q67
                  obtain ⟨e67_1, e67_2, h67⟩ := q67
                  replace e67_1 := e67_1.symm; subst e67_1
                  replace e67_2 := e67_2.symm; subst e67_2
                  refine Z_if_ne (n := 73) (t := 75) dX3_combine_70 rfl (by decide) (fun c70 => ?_) (fun c70 => ?_)
                  · refine Z_loc (L' := [some _, some _, some _, some _, some _, some _, some _]) (lsub_same (lsub_same (lsub_same (lsub_same (lsub_same (lsub_same (lsub_same lsub_nil))))))) ?_
                    exact ct75 _ _  (by first | assumption | omega | decide) (by first | assumption | omega | decide) (by first | assumption | omega | decide) (by first | assumption | omega | decide) (by first | assumption | omega | decide) (by first | assumption | omega | decide) (by first | assumption | omega | decide)
                  · refine Z_iconst (n := 74) dX3_combine_73 rfl (by decide) ?_
                    refine Z_iret dX3_combine_74 rfl ?_
                    exact ⟨rfl, hc, Or.inr (Or.inr (Or.inl ⟨by omega, by omega, by omega, by omega, by omega, rfl, rfl⟩))⟩
          · refine Z_iconst (n := 40) dX3_combine_39 rfl (by decide) ?_
            refine Z_goto (t := 44) dX3_combine_40 (by decide) ?_
            refine Z_istore (L' := [_, _, _, _, _, _, _]) (n := 46) dX3_combine_44 rfl (by decide) rfl rfl ?_
            refine Z_iload (n := 48) dX3_combine_46 rfl rfl ?_
            refine Z_if_eq (n := 51) (t := 59) dX3_combine_48 rfl (by decide) (fun c48 => ?_) (fun c48 => ?_)
            · refine Z_iload (n := 61) dX3_combine_59 rfl rfl ?_
              refine Z_if_eq (n := 64) (t := 75) dX3_combine_61 rfl (by decide) (fun c61 => ?_) (fun c61 => ?_)
              · refine Z_loc (L' := [some _, some _, some _, some _, some _, some _, some _]) (lsub_same (lsub_same (lsub_same (lsub_same (lsub_same (lsub_same (lsub_same lsub_nil))))))) ?_
                exact ct75 _ _  (by first | assumption | omega | decide) (by first | assumption | omega | decide) (by first | assumption | omega | decide) (by first | assumption | omega | decide) (by first | assumption | omega | decide) (by first | assumption | omega | decide) (by first | assumption | omega | decide)
              · refine Z_aload_n (n := 65) dX3_combine_64 rfl rfl ?_
                refine Z_iload (n := 67) dX3_combine_65 rfl rfl ?_
                refine Z_callVi (n := 70) [_] _ dX3_combine_67 rfl cwX3_139 rfl rfl (by first | rfl | exact nS0 (nA_at (by omega) (by omega))) (Nat.le_of_ble_eq_true rfl) (by refine ⟨?_, ?_, ?_, ?_⟩ <;> exact Nat.le_of_ble_eq_true rfl) (fun _ _ => trivial) (zX3_hasFunction  ) ?_
                intro x67 M67 J67 z67 f67 q67
                obtain ⟨e67_1, e67_2, h67⟩ := q67
                replace e67_1 := e67_1.symm; subst e67_1
                replace e67_2 := e67_2.symm; subst e67_2
                refine Z_if_ne (n := 73) (t := 75) dX3_combine_70 rfl (by decide) (fun c70 => ?_) (fun c70 => ?_)
                · refine Z_loc (L' := [some _, some _, some _, some _, some _, some _, some _]) (lsub_same (lsub_same (lsub_same (lsub_same (lsub_same (lsub_same (lsub_same lsub_nil))))))) ?_
                  exact ct75 _ _  (by first | assumption | omega | decide) (by first | assumption | omega | decide) (by first | assumption | omega | decide) (by first | assumption | omega | decide) (by first | assumption | omega | decide) (by first | assumption | omega | decide) (by first | assumption | omega | decide)
                · refine Z_iconst (n := 74) dX3_combine_73 rfl (by decide) ?_
                  refine Z_iret dX3_combine_74 rfl ?_
                  exact ⟨rfl, hc, Or.inr (Or.inr (Or.inl ⟨by omega, by omega, by omega, by omega, by omega, rfl, rfl⟩))⟩
            · refine Z_aload_n (n := 52) dX3_combine_51 rfl rfl ?_
              refine Z_iload_n (n := 53) dX3_combine_52 rfl rfl ?_
              refine Z_callVi (n := 56) [_] _ dX3_combine_53 rfl cwX3_139 rfl rfl (by first | rfl | exact nS0 (nA_at (by omega) (by omega))) (Nat.le_of_ble_eq_true rfl) (by refine ⟨?_, ?_, ?_, ?_⟩ <;> exact Nat.le_of_ble_eq_true rfl) (fun _ _ => trivial) (zX3_hasFunction  ) ?_
              intro x53 M53 J53 z53 f53 q53
              obtain ⟨e53_1, e53_2, h53⟩ := q53
              replace e53_1 := e53_1.symm; subst e53_1
              replace e53_2 := e53_2.symm; subst e53_2
              refine Z_if_eq (n := 59) (t := 73) dX3_combine_56 rfl (by decide) (fun c56 => ?_) (fun c56 => ?_)
              · refine Z_iconst (n := 74) dX3_combine_73 rfl (by decide) ?_
                refine Z_iret dX3_combine_74 rfl ?_
                exact ⟨rfl, hc, Or.inr (Or.inr (Or.inl ⟨by omega, by omega, by omega, by omega, by omega, rfl, rfl⟩))⟩
              · refine Z_iload (n := 61) dX3_combine_59 rfl rfl ?_
                refine Z_if_eq (n := 64) (t := 75) dX3_combine_61 rfl (by decide) (fun c61 => ?_) (fun c61 => ?_)
                · refine Z_loc (L' := [some _, some _, some _, some _, some _, some _, some _]) (lsub_same (lsub_same (lsub_same (lsub_same (lsub_same (lsub_same (lsub_same lsub_nil))))))) ?_
                  exact ct75 _ _  (by first | assumption | omega | decide) (by first | assumption | omega | decide) (by first | assumption | omega | decide) (by first | assumption | omega | decide) (by first | assumption | omega | decide) (by first | assumption | omega | decide) (by first | assumption | omega | decide)
                · refine Z_aload_n (n := 65) dX3_combine_64 rfl rfl ?_
                  refine Z_iload (n := 67) dX3_combine_65 rfl rfl ?_
                  refine Z_callVi (n := 70) [_] _ dX3_combine_67 rfl cwX3_139 rfl rfl (by first | rfl | exact nS0 (nA_at (by omega) (by omega))) (Nat.le_of_ble_eq_true rfl) (by refine ⟨?_, ?_, ?_, ?_⟩ <;> exact Nat.le_of_ble_eq_true rfl) (fun _ _ => trivial) (zX3_hasFunction  ) ?_
                  intro x67 M67 J67 z67 f67 q67
                  obtain ⟨e67_1, e67_2, h67⟩ := q67
                  replace e67_1 := e67_1.symm; subst e67_1
                  replace e67_2 := e67_2.symm; subst e67_2
                  refine Z_if_ne (n := 73) (t := 75) dX3_combine_70 rfl (by decide) (fun c70 => ?_) (fun c70 => ?_)
                  · refine Z_loc (L' := [some _, some _, some _, some _, some _, some _, some _]) (lsub_same (lsub_same (lsub_same (lsub_same (lsub_same (lsub_same (lsub_same lsub_nil))))))) ?_
                    exact ct75 _ _  (by first | assumption | omega | decide) (by first | assumption | omega | decide) (by first | assumption | omega | decide) (by first | assumption | omega | decide) (by first | assumption | omega | decide) (by first | assumption | omega | decide) (by first | assumption | omega | decide)
                  · refine Z_iconst (n := 74) dX3_combine_73 rfl (by decide) ?_
                    refine Z_iret dX3_combine_74 rfl ?_
                    exact ⟨rfl, hc, Or.inr (Or.inr (Or.inl ⟨by omega, by omega, by omega, by omega, by omega, rfl, rfl⟩))⟩
      · refine Z_bipush (n := 21) dX3_combine_19 rfl (by decide) (by decide) ?_
        refine Z_iret dX3_combine_21 rfl ?_
        exact ⟨rfl, hc, Or.inr (Or.inl ⟨by omega, by omega, by omega, rfl, rfl⟩)⟩
  · refine Z_iconst (n := 8) dX3_combine_7 rfl (by decide) ?_
    refine Z_iret dX3_combine_8 rfl ?_
    exact ⟨rfl, hc, Or.inl ⟨by omega, rfl, rfl⟩⟩
set_option maxRecDepth 20000 in
theorem zX3_choose_f {G : tl_G} {M : zM} {J : zJ} {h f g k : Int} (hc : cI M) (hb : CB M) : ZN G yX3_choose mX3_choose 13 kFc [vR 0, vI h, vI f, vI g, vI k] F1 M J (qI (fun x M' J' => J' = J ∧ cI M' ∧ (((h < 0 ∨ 12 ≤ h ∨ f < 0 ∨ 12 ≤ f ∨ M 12 f = -1 ∨ g < 0 ∨ 12 ≤ g ∨ M 12 g = -1 ∨ k < 0 ∨ 12 ≤ k ∨ M 12 k = -1) ∧ x = -1 ∧ M' = M) ∨ (¬ (h < 0 ∨ 12 ≤ h ∨ f < 0 ∨ 12 ≤ f ∨ M 12 f = -1 ∨ g < 0 ∨ 12 ≤ g ∨ M 12 g = -1 ∨ k < 0 ∨ 12 ≤ k ∨ M 12 k = -1) ∧ finQ M h (okP M E0 (fun r => tbl (tabF 10) (den M (M 12 f) r) (den M (M 12 g) r) (den M (M 12 k) r))) (fun r => tbl (tabF 10) (den M (M 12 f) r) (den M (M 12 g) r) (den M (M 12 k) r)) x M')))) := by
  refine ZN_of (L := [_, _, _, _, _]) (by decide) rfl rfl (Nat.le_of_ble_eq_true rfl) rfl (fun hav => ?_)
  refine Z_iload_n (n := 1) dX3_choose_0 rfl rfl ?_
  refine Z_callSi (n := 4) [_] _ dX3_choose_1 rfl cwX3_123 rfl rfl (Nat.le_of_ble_eq_true rfl) (by refine ⟨?_, ?_, ?_, ?_⟩ <;> exact Nat.le_of_ble_eq_true rfl) (fun _ _ => trivial) (zX3_isHandle  ) ?_
  intro x1 M1 J1 z1 f1 q1
  obtain ⟨e1_1, e1_2, h1⟩ := q1
  replace e1_1 := e1_1.symm; subst e1_1
  replace e1_2 := e1_2.symm; subst e1_2
  refine Z_if_eq (n := 7) (t := 32) dX3_choose_4 rfl (by decide) (fun c4 => ?_) (fun c4 => ?_)
  · refine Z_iconst (n := 33) dX3_choose_32 rfl (by decide) ?_
    refine Z_iret dX3_choose_33 rfl ?_
    exact ⟨rfl, hc, Or.inl ⟨by omega, rfl, rfl⟩⟩
  · refine Z_aload_n (n := 8) dX3_choose_7 rfl rfl ?_
    refine Z_iload_n (n := 9) dX3_choose_8 rfl rfl ?_
    refine Z_callVi (n := 12) [_] _ dX3_choose_9 rfl cwX3_139 rfl rfl (by first | rfl | exact nS0 (nA_at (by omega) (by omega))) (Nat.le_of_ble_eq_true rfl) (by refine ⟨?_, ?_, ?_, ?_⟩ <;> exact Nat.le_of_ble_eq_true rfl) (fun _ _ => trivial) (zX3_hasFunction  ) ?_
    intro x9 M9 J9 z9 f9 q9
    obtain ⟨e9_1, e9_2, h9⟩ := q9
    replace e9_1 := e9_1.symm; subst e9_1
    replace e9_2 := e9_2.symm; subst e9_2
    refine Z_if_eq (n := 15) (t := 32) dX3_choose_12 rfl (by decide) (fun c12 => ?_) (fun c12 => ?_)
    · refine Z_iconst (n := 33) dX3_choose_32 rfl (by decide) ?_
      refine Z_iret dX3_choose_33 rfl ?_
      exact ⟨rfl, hc, Or.inl ⟨by omega, rfl, rfl⟩⟩
    · refine Z_aload_n (n := 16) dX3_choose_15 rfl rfl ?_
      refine Z_iload_n (n := 17) dX3_choose_16 rfl rfl ?_
      refine Z_callVi (n := 20) [_] _ dX3_choose_17 rfl cwX3_139 rfl rfl (by first | rfl | exact nS0 (nA_at (by omega) (by omega))) (Nat.le_of_ble_eq_true rfl) (by refine ⟨?_, ?_, ?_, ?_⟩ <;> exact Nat.le_of_ble_eq_true rfl) (fun _ _ => trivial) (zX3_hasFunction  ) ?_
      intro x17 M17 J17 z17 f17 q17
      obtain ⟨e17_1, e17_2, h17⟩ := q17
      replace e17_1 := e17_1.symm; subst e17_1
      replace e17_2 := e17_2.symm; subst e17_2
      refine Z_if_eq (n := 23) (t := 32) dX3_choose_20 rfl (by decide) (fun c20 => ?_) (fun c20 => ?_)
      · refine Z_iconst (n := 33) dX3_choose_32 rfl (by decide) ?_
        refine Z_iret dX3_choose_33 rfl ?_
        exact ⟨rfl, hc, Or.inl ⟨by omega, rfl, rfl⟩⟩
      · refine Z_aload_n (n := 24) dX3_choose_23 rfl rfl ?_
        refine Z_iload (n := 26) dX3_choose_24 rfl rfl ?_
        refine Z_callVi (n := 29) [_] _ dX3_choose_26 rfl cwX3_139 rfl rfl (by first | rfl | exact nS0 (nA_at (by omega) (by omega))) (Nat.le_of_ble_eq_true rfl) (by refine ⟨?_, ?_, ?_, ?_⟩ <;> exact Nat.le_of_ble_eq_true rfl) (fun _ _ => trivial) (zX3_hasFunction  ) ?_
        intro x26 M26 J26 z26 f26 q26
        obtain ⟨e26_1, e26_2, h26⟩ := q26
        replace e26_1 := e26_1.symm; subst e26_1
        replace e26_2 := e26_2.symm; subst e26_2
        refine Z_if_ne (n := 32) (t := 34) dX3_choose_29 rfl (by decide) (fun c29 => ?_) (fun c29 => ?_)
        · refine Z_aload_n (n := 35) dX3_choose_34 rfl rfl ?_
          refine Z_callVv (n := 38) [] _ dX3_choose_35 rfl cwX3_126 rfl rfl (by first | rfl | exact nS0 (nA_at (by omega) (by omega))) (Nat.le_of_ble_eq_true rfl) (by refine ⟨?_, ?_, ?_, ?_⟩ <;> exact Nat.le_of_ble_eq_true rfl) (fun _ h => h) (zX3_beginSteps  (by decide)) ?_
          intro M35 J35 f35 q35
          obtain ⟨e35_1, e35_2⟩ := q35
          replace e35_1 := e35_1.symm; subst e35_1
          replace e35_2 := e35_2.symm; subst e35_2
          refine Z_nm (fun M35 e35 => ?_)
          have ob : ∀ a : Nat, ¬ a = 0 → M35 a = M a := fun a ha => by rw [e35]; exact uz_o ha
          have md0 : mid M M35 E0 := mid_0 hb ob (by rw [e35]; exact uz_n (by decide))
          have hdb : den M35 = den M := den_cg (ob 6 (by decide)) (ob 7 (by decide)) (ob 8 (by decide))
          have hOb : ordOK M35 := ordOK_fr hc.2.1 (ob 4 (by decide))
          have nb := mid_no md0
          obtain ⟨Sb, hSb, hRb⟩ := md0.1
          clear e35
          refine Z_aload_n (n := 39) dX3_choose_38 rfl rfl ?_
          refine Z_iload_n (n := 40) dX3_choose_39 rfl rfl ?_
          refine Z_aload_n (n := 41) dX3_choose_40 rfl rfl ?_
          refine Z_bipush (n := 43) dX3_choose_41 rfl (by decide) (by decide) ?_
          refine Z_aload_n (n := 44) dX3_choose_43 rfl rfl ?_
          refine Z_getA (n := 47) dX3_choose_44 rfl ffX3_29 (by first | rfl | exact nS0 (nA_at (by omega) (by omega))) (by first | rfl | exact nS0 (nA_at (by omega) (by omega))) ?_
          refine Z_iload_n (n := 48) dX3_choose_47 rfl rfl ?_
          refine Z_iald (n := 49) dX3_choose_48 rfl (by first | rfl | exact nS0 (nA_at (by omega) (by omega))) rfl (by first | decide | assumption) (by omega) (by omega) (fun r48 s48 => ?_)
          refine Z_aload_n (n := 50) dX3_choose_49 rfl rfl ?_
          refine Z_getA (n := 53) dX3_choose_50 rfl ffX3_29 (by first | rfl | exact nS0 (nA_at (by omega) (by omega))) (by first | rfl | exact nS0 (nA_at (by omega) (by omega))) ?_
          refine Z_iload_n (n := 54) dX3_choose_53 rfl rfl ?_
          refine Z_iald (n := 55) dX3_choose_54 rfl (by first | rfl | exact nS0 (nA_at (by omega) (by omega))) rfl (by first | decide | assumption) (by omega) (by omega) (fun r54 s54 => ?_)
          refine Z_aload_n (n := 56) dX3_choose_55 rfl rfl ?_
          refine Z_getA (n := 59) dX3_choose_56 rfl ffX3_29 (by first | rfl | exact nS0 (nA_at (by omega) (by omega))) (by first | rfl | exact nS0 (nA_at (by omega) (by omega))) ?_
          refine Z_iload (n := 61) dX3_choose_59 rfl rfl ?_
          refine Z_iald (n := 62) dX3_choose_61 rfl (by first | rfl | exact nS0 (nA_at (by omega) (by omega))) rfl (by first | decide | assumption) (by omega) (by omega) (fun r61 s61 => ?_)
          refine Z_callVi (n := 65) [_, _, _, _] _ dX3_choose_62 rfl cwX3_142 rfl rfl (by first | rfl | exact nS0 (nA_at (by omega) (by omega))) (Nat.le_of_ble_eq_true rfl) (by refine ⟨?_, ?_, ?_, ?_⟩ <;> exact Nat.le_of_ble_eq_true rfl) (fun a h => by unfold kFc at h; unfold kSt1; omega) (zX3_kindStep_f  (by omega) (by omega) (by exact Or.inr (Or.inr (Or.inr ⟨Or.inl ⟨f, ⟨by omega, by omega⟩, rfl⟩, by rw [ob 12 (by decide)]; omega⟩))) (by exact Or.inr (Or.inr (Or.inr ⟨Or.inl ⟨g, ⟨by omega, by omega⟩, rfl⟩, by rw [ob 12 (by decide)]; omega⟩))) (by exact Or.inr (Or.inr (Or.inr ⟨Or.inl ⟨k, ⟨by omega, by omega⟩, rfl⟩, by rw [ob 12 (by decide)]; omega⟩))) (by exact hSb) (by exact hRb) (by exact nb)) ?_
          intro x62 M62 J62 z62 f62 q62
          obtain ⟨e62_1, sq62⟩ := q62
          replace e62_1 := e62_1.symm; subst e62_1
          have e12 : M35 12 = M 12 := ob 12 (by decide)
          have sqX := (sq62.resolve_left (fun z => by rw [ob 12 (by decide)] at z; omega)).2
          rw [hdb, e12] at sqX
          obtain ⟨md1, rs1, S1, hS1, hR1, hx1⟩ := mid_st md0 sqX (f62 12 (by decide)).1 (f62 13 (by decide)).1 (f62 15 (by decide)).1
          refine Z_callVi (n := 68) [_, _] _ dX3_choose_65 rfl cwX3_133 rfl rfl (by first | rfl | exact nS0 (nA_at (by omega) (by omega))) (Nat.le_of_ble_eq_true rfl) (by refine ⟨?_, ?_, ?_, ?_⟩ <;> exact Nat.le_of_ble_eq_true rfl) (fun a h => by unfold kFc at h; unfold kGive; omega) (zX3_give_f  (by omega) (by omega) (by exact hS1.1) (by exact hx1)) ?_
          intro x65 M65 J65 z65 f65 q65
          obtain ⟨e65_1, ng65, gv65⟩ := q65
          replace e65_1 := e65_1.symm; subst e65_1
          refine Z_fr (fun frR => ?_)
          have fq := fin_mk md1 (by omega) (by omega) hS1 hR1 hx1 (rs_ok rs1).1 (rs_ok rs1).2 (fun a h1 h2 h3 h4 => (f65 a ⟨h1, h2, h3, h4⟩).1) ng65 gv65
          refine Z_iret dX3_choose_68 rfl ?_
          exact ⟨rfl, cI_fin hc fq frR, Or.inr ⟨by omega, fq⟩⟩
        · refine Z_iconst (n := 33) dX3_choose_32 rfl (by decide) ?_
          refine Z_iret dX3_choose_33 rfl ?_
          exact ⟨rfl, hc, Or.inl ⟨by omega, rfl, rfl⟩⟩
set_option maxRecDepth 20000 in
theorem zX3_restrict_f {G : tl_G} {M : zM} {J : zJ} {h f v y : Int} (hc : cI M) (hb : CB M) : ZN G yX3_restrict mX3_restrict 13 kFc [vR 0, vI h, vI f, vI v, vI y] F1 M J (qI (fun x M' J' => J' = J ∧ cI M' ∧ (((h < 0 ∨ 12 ≤ h ∨ f < 0 ∨ 12 ≤ f ∨ M 12 f = -1) ∧ x = -1 ∧ M' = M) ∨ (¬ (h < 0 ∨ 12 ≤ h ∨ f < 0 ∨ 12 ≤ f ∨ M 12 f = -1) ∧ (v < 0 ∨ 8 ≤ v) ∧ x = -2 ∧ M' = M) ∨ (¬ (h < 0 ∨ 12 ≤ h ∨ f < 0 ∨ 12 ≤ f ∨ M 12 f = -1) ∧ 0 ≤ v ∧ v < 8 ∧ finQ M h (okP M E0 (fun r => den M (M 12 f) (updI r (M 4 v) (if y = 0 then 0 else 1)))) (fun r => den M (M 12 f) (updI r (M 4 v) (if y = 0 then 0 else 1))) x M')))) := by
  refine ZN_of (L := [_, _, _, _, _]) (by decide) rfl rfl (Nat.le_of_ble_eq_true rfl) rfl (fun hav => ?_)
  refine Z_iload_n (n := 1) dX3_restrict_0 rfl rfl ?_
  refine Z_callSi (n := 4) [_] _ dX3_restrict_1 rfl cwX3_123 rfl rfl (Nat.le_of_ble_eq_true rfl) (by refine ⟨?_, ?_, ?_, ?_⟩ <;> exact Nat.le_of_ble_eq_true rfl) (fun _ _ => trivial) (zX3_isHandle  ) ?_
  intro x1 M1 J1 z1 f1 q1
  obtain ⟨e1_1, e1_2, h1⟩ := q1
  replace e1_1 := e1_1.symm; subst e1_1
  replace e1_2 := e1_2.symm; subst e1_2
  refine Z_if_eq (n := 7) (t := 15) dX3_restrict_4 rfl (by decide) (fun c4 => ?_) (fun c4 => ?_)
  · refine Z_iconst (n := 16) dX3_restrict_15 rfl (by decide) ?_
    refine Z_iret dX3_restrict_16 rfl ?_
    exact ⟨rfl, hc, Or.inl ⟨by omega, rfl, rfl⟩⟩
  · refine Z_aload_n (n := 8) dX3_restrict_7 rfl rfl ?_
    refine Z_iload_n (n := 9) dX3_restrict_8 rfl rfl ?_
    refine Z_callVi (n := 12) [_] _ dX3_restrict_9 rfl cwX3_139 rfl rfl (by first | rfl | exact nS0 (nA_at (by omega) (by omega))) (Nat.le_of_ble_eq_true rfl) (by refine ⟨?_, ?_, ?_, ?_⟩ <;> exact Nat.le_of_ble_eq_true rfl) (fun _ _ => trivial) (zX3_hasFunction  ) ?_
    intro x9 M9 J9 z9 f9 q9
    obtain ⟨e9_1, e9_2, h9⟩ := q9
    replace e9_1 := e9_1.symm; subst e9_1
    replace e9_2 := e9_2.symm; subst e9_2
    refine Z_if_ne (n := 15) (t := 17) dX3_restrict_12 rfl (by decide) (fun c12 => ?_) (fun c12 => ?_)
    · refine Z_iload_n (n := 18) dX3_restrict_17 rfl rfl ?_
      refine Z_callSi (n := 21) [_] _ dX3_restrict_18 rfl cwX3_70 rfl rfl (Nat.le_of_ble_eq_true rfl) (by refine ⟨?_, ?_, ?_, ?_⟩ <;> exact Nat.le_of_ble_eq_true rfl) (fun _ _ => trivial) (zX3_isVariable  ) ?_
      intro x18 M18 J18 z18 f18 q18
      obtain ⟨e18_1, e18_2, h18⟩ := q18
      replace e18_1 := e18_1.symm; subst e18_1
      replace e18_2 := e18_2.symm; subst e18_2
      refine Z_if_ne (n := 24) (t := 27) dX3_restrict_21 rfl (by decide) (fun c21 => ?_) (fun c21 => ?_)
      · refine Z_aload_n (n := 28) dX3_restrict_27 rfl rfl ?_
        refine Z_callVv (n := 31) [] _ dX3_restrict_28 rfl cwX3_126 rfl rfl (by first | rfl | exact nS0 (nA_at (by omega) (by omega))) (Nat.le_of_ble_eq_true rfl) (by refine ⟨?_, ?_, ?_, ?_⟩ <;> exact Nat.le_of_ble_eq_true rfl) (fun _ h => h) (zX3_beginSteps  (by decide)) ?_
        intro M28 J28 f28 q28
        obtain ⟨e28_1, e28_2⟩ := q28
        replace e28_1 := e28_1.symm; subst e28_1
        replace e28_2 := e28_2.symm; subst e28_2
        refine Z_nm (fun M28 e28 => ?_)
        have ob : ∀ a : Nat, ¬ a = 0 → M28 a = M a := fun a ha => by rw [e28]; exact uz_o ha
        have md0 : mid M M28 E0 := mid_0 hb ob (by rw [e28]; exact uz_n (by decide))
        have hdb : den M28 = den M := den_cg (ob 6 (by decide)) (ob 7 (by decide)) (ob 8 (by decide))
        have hOb : ordOK M28 := ordOK_fr hc.2.1 (ob 4 (by decide))
        have nb := mid_no md0
        obtain ⟨Sb, hSb, hRb⟩ := md0.1
        clear e28
        refine Z_aload_n (n := 32) dX3_restrict_31 rfl rfl ?_
        refine Z_iload_n (n := 33) dX3_restrict_32 rfl rfl ?_
        refine Z_aload_n (n := 34) dX3_restrict_33 rfl rfl ?_
        refine Z_aload_n (n := 35) dX3_restrict_34 rfl rfl ?_
        refine Z_getA (n := 38) dX3_restrict_35 rfl ffX3_29 (by first | rfl | exact nS0 (nA_at (by omega) (by omega))) (by first | rfl | exact nS0 (nA_at (by omega) (by omega))) ?_
        refine Z_iload_n (n := 39) dX3_restrict_38 rfl rfl ?_
        refine Z_iald (n := 40) dX3_restrict_39 rfl (by first | rfl | exact nS0 (nA_at (by omega) (by omega))) rfl (by first | decide | assumption) (by omega) (by omega) (fun r39 s39 => ?_)
        refine Z_iload_n (n := 41) dX3_restrict_40 rfl rfl ?_
        refine Z_iload (n := 43) dX3_restrict_41 rfl rfl ?_
        refine Z_callVi (n := 46) [_, _, _] _ dX3_restrict_43 rfl cwX3_145 rfl rfl (by first | rfl | exact nS0 (nA_at (by omega) (by omega))) (Nat.le_of_ble_eq_true rfl) (by refine ⟨?_, ?_, ?_, ?_⟩ <;> exact Nat.le_of_ble_eq_true rfl) (fun a h => by unfold kFc at h; unfold kSt1; omega) (zX3_fixStep_f  (by omega) (by omega) (by exact Or.inr (Or.inr ⟨Or.inl ⟨f, ⟨by omega, by omega⟩, rfl⟩, by rw [ob 12 (by decide)]; omega⟩)) (by exact hOb) (by exact hSb) (by exact hRb) (by exact nb)) ?_
        intro x43 M43 J43 z43 f43 q43
        obtain ⟨e43_1, sq43⟩ := q43
        replace e43_1 := e43_1.symm; subst e43_1
        have e12 : M28 12 = M 12 := ob 12 (by decide)
        have e4 : M28 4 = M 4 := ob 4 (by decide)
        have sqX := sq43
        rw [hdb, e12, e4] at sqX
        obtain ⟨md1, rs1, S1, hS1, hR1, hx1⟩ := mid_st md0 sqX (f43 12 (by decide)).1 (f43 13 (by decide)).1 (f43 15 (by decide)).1
        refine Z_callVi (n := 49) [_, _] _ dX3_restrict_46 rfl cwX3_133 rfl rfl (by first | rfl | exact nS0 (nA_at (by omega) (by omega))) (Nat.le_of_ble_eq_true rfl) (by refine ⟨?_, ?_, ?_, ?_⟩ <;> exact Nat.le_of_ble_eq_true rfl) (fun a h => by unfold kFc at h; unfold kGive; omega) (zX3_give_f  (by omega) (by omega) (by exact hS1.1) (by exact hx1)) ?_
        intro x46 M46 J46 z46 f46 q46
        obtain ⟨e46_1, ng46, gv46⟩ := q46
        replace e46_1 := e46_1.symm; subst e46_1
        refine Z_fr (fun frR => ?_)
        have fq := fin_mk md1 (by omega) (by omega) hS1 hR1 hx1 (rs_ok rs1).1 (rs_ok rs1).2 (fun a h1 h2 h3 h4 => (f46 a ⟨h1, h2, h3, h4⟩).1) ng46 gv46
        refine Z_iret dX3_restrict_49 rfl ?_
        exact ⟨rfl, cI_fin hc fq frR, Or.inr (Or.inr ⟨by omega, by omega, by omega, fq⟩)⟩
      · refine Z_bipush (n := 26) dX3_restrict_24 rfl (by decide) (by decide) ?_
        refine Z_iret dX3_restrict_26 rfl ?_
        exact ⟨rfl, hc, Or.inr (Or.inl ⟨by omega, by omega, rfl, rfl⟩)⟩
    · refine Z_iconst (n := 16) dX3_restrict_15 rfl (by decide) ?_
      refine Z_iret dX3_restrict_16 rfl ?_
      exact ⟨rfl, hc, Or.inl ⟨by omega, rfl, rfl⟩⟩
end
section
/-! ===== the class: quantify, compose, share, drop, room ===== -/
def E1 (F0 : FN) (y : Lb) : Prop := E0 y ∨ laid F0 y
def E2 (F0 F1 : FN) (y : Lb) : Prop := E1 F0 y ∨ laid F1 y
/-- a step, and what it made is kept -/
theorem mid_sk {M M2 M3 M4 : zM} {E : Lb → Prop} {F : FN} {x : Int} (h : mid M M2 E) (hq : stQ M2 F x M3) (h12 : M3 12 = M2 12) (h13 : M3 13 = M2 13) (h15 : M3 15 = M2 15) (h7 : 0 ≤ M2 0 7) (kp : (x = -1 ∧ M4 = M3) ∨ (¬ x = -1 ∧ M4 = uz (uz M3 15 (M3 0 7) x) 0 7 (M3 0 7 + 1))) : ((x = -1 ∧ ¬ okP M E F ∧ mid M M4 E) ∨ (¬ x = -1 ∧ okP M E F ∧ mid M M4 (fun y => E y ∨ laid F y) ∧ rt M4 x ∧ den M4 x = F)) ∧ (∀ (z : Int) (G : FN), rt M2 z → ¬ z = -1 → den M2 z = G → rt M4 z ∧ den M4 z = G) ∧ M4 0 7 ≤ M2 0 7 + 1 := by
  obtain ⟨md, rs, S, hS, hR, hx⟩ := mid_st h hq h12 h13 h15
  have hrt : rt M3 = rt M2 := rt_cg h12 h13 h15 hq.2.2.2.1
  have k07 : M3 0 7 = M2 0 7 := hq.2.2.2.1
  rcases kp with ⟨hx1, e⟩ | ⟨hx1, e⟩
  · rw [e]
    refine ⟨Or.inl ⟨hx1, fun t => (rs_ok rs).1.mp t hx1, md⟩, fun z G a b c => ⟨by rw [hrt]; exact a, ((hq.2.1 z a).resolve_left b).trans c⟩, by omega⟩
  · obtain ⟨hd, ho⟩ := (rs_ok rs).2 hx1
    obtain ⟨mk, rk⟩ := mid_kp md hS hR (hx.resolve_left hx1) hd ho (by omega) e
    have hd4 : den M4 = den M3 := den_cg (by rw [e, uz_o (by decide), uz_o (by decide)]) (by rw [e, uz_o (by decide), uz_o (by decide)]) (by rw [e, uz_o (by decide), uz_o (by decide)])
    refine ⟨Or.inr ⟨hx1, ho, mk, rk, by rw [hd4]; exact hd⟩, fun z G a b c => ⟨?_, by rw [hd4]; exact ((hq.2.1 z a).resolve_left b).trans c⟩, by rw [e, uz_s]; omega⟩
    rw [← hrt] at a
    rcases a with q | q | ⟨k, kb, q⟩
    · left; rw [e, uz_o (by decide), uz_o (by decide)]; exact q
    · right; left; rw [e, uz_o (by decide), uz_o (by decide)]; exact q
    · right; right
      refine ⟨k, by rw [e, uz_s]; omega, ?_⟩
      rw [e, uz_oo (by decide), uz_n (by omega)]
      exact q
/-- where the halves come together -/
def hvQ (M M2 : zM) (F0 F1 : FN) (p q : Int) : Prop := (p = -1 ∧ q = -1 ∧ ¬ okP M E0 F0 ∧ mid M M2 E0) ∨ (¬ p = -1 ∧ q = -1 ∧ okP M E0 F0 ∧ ¬ okP M (E1 F0) F1 ∧ mid M M2 (E1 F0) ∧ rt M2 p) ∨ (¬ p = -1 ∧ ¬ q = -1 ∧ (okP M E0 F0 ∧ okP M (E1 F0) F1) ∧ mid M M2 (E2 F0 F1) ∧ (rt M2 p ∧ den M2 p = F0) ∧ rt M2 q ∧ den M2 q = F1)
theorem hv_mid {M M2 : zM} {F0 F1 : FN} {p q : Int} (h : hvQ M M2 F0 F1 p q) : ∃ E : Lb → Prop, mid M M2 E := by
  rcases h with ⟨-, -, -, m⟩ | ⟨-, -, -, -, m, -⟩ | ⟨-, -, -, m, -⟩
  · exact ⟨_, m⟩
  · exact ⟨_, m⟩
  · exact ⟨_, m⟩
theorem hv_op {M M2 : zM} {F0 F1 : FN} {p q : Int} (h : hvQ M M2 F0 F1 p q) : (p = -1 ∨ opr M2 p) ∧ (q = -1 ∨ opr M2 q) := by
  rcases h with ⟨a, b, -⟩ | ⟨a, b, -, -, -, c⟩ | ⟨a, b, -, -, ⟨c, -⟩, d, -⟩
  · exact ⟨Or.inl a, Or.inl b⟩
  · exact ⟨Or.inr (Or.inr (Or.inr ⟨c, a⟩)), Or.inl b⟩
  · exact ⟨Or.inr (Or.inr (Or.inr ⟨c, a⟩)), Or.inr (Or.inr (Or.inr ⟨d, b⟩))⟩
/-- behind the last step -/
theorem hv_fin {M M2 M3 : zM} {F0 F1 FT : FN} {p q x : Int} (h : hvQ M M2 F0 F1 p q) (h12 : M3 12 = M2 12) (h13 : M3 13 = M2 13) (h15 : M3 15 = M2 15) (sq : ((p = -1 ∨ q = -1) ∧ x = -1 ∧ M3 = M2) ∨ ((¬ p = -1 ∧ ¬ q = -1) ∧ (den M2 p = F0 → den M2 q = F1 → stQ M2 FT x M3))) : ∃ E : Lb → Prop, mid M M3 E ∧ ((okP M E0 F0 ∧ okP M (E1 F0) F1 ∧ okP M (E2 F0 F1) FT) ↔ ¬ x = -1) ∧ (¬ x = -1 → den M3 x = FT ∧ okP M E FT) ∧ ∃ S : Int → Prop, plo M3 S ∧ rtO M3 S ∧ (x = -1 ∨ okN S x) := by
  have dead : ∀ {E : Lb → Prop}, mid M M2 E → x = -1 → M3 = M2 → ¬ (okP M E0 F0 ∧ okP M (E1 F0) F1) → ∃ E : Lb → Prop, mid M M3 E ∧ ((okP M E0 F0 ∧ okP M (E1 F0) F1 ∧ okP M (E2 F0 F1) FT) ↔ ¬ x = -1) ∧ (¬ x = -1 → den M3 x = FT ∧ okP M E FT) ∧ ∃ S : Int → Prop, plo M3 S ∧ rtO M3 S ∧ (x = -1 ∨ okN S x) := fun {E} m hx e hn => by
    obtain ⟨S, hS, hR⟩ := m.1
    rw [e]
    exact ⟨E, m, ⟨fun t => absurd ⟨t.1, t.2.1⟩ hn, fun t => absurd hx t⟩, fun t => absurd hx t, S, hS, hR, Or.inl hx⟩
  rcases h with ⟨a, b, n, m⟩ | ⟨a, b, o, n, m, -⟩ | ⟨a, b, o, m, ⟨c, c2⟩, d, d2⟩
  · rcases sq with ⟨-, hx, e⟩ | ⟨t, -⟩
    · exact dead m hx e (fun t => n t.1)
    · exact absurd a t.1
  · rcases sq with ⟨-, hx, e⟩ | ⟨t, -⟩
    · exact dead m hx e (fun t => n t.2)
    · exact absurd b t.2
  · rcases sq with ⟨t, -⟩ | ⟨-, hq⟩
    · rcases t with t | t
      · exact absurd t a
      · exact absurd t b
    · obtain ⟨md, rs, S, hS, hR, hx⟩ := mid_st m (hq c2 d2) h12 h13 h15
      refine ⟨E2 F0 F1, md, ⟨fun t => (rs_ok rs).1.mp t.2.2, fun t => ⟨o.1, o.2, (rs_ok rs).1.mpr t⟩⟩, (rs_ok rs).2, S, hS, hR, hx⟩
set_option maxRecDepth 20000 in
theorem zX3_quantify_f {G : tl_G} {M : zM} {J : zJ} {h f v y : Int} (hc : cI M) (hb : CB M) : ZN G yX3_quantify mX3_quantify 13 kFc [vR 0, vI h, vI f, vI v, vI y] F1 M J (qI (fun x M' J' => J' = J ∧ cI M' ∧ (((h < 0 ∨ 12 ≤ h ∨ f < 0 ∨ 12 ≤ f ∨ M 12 f = -1) ∧ x = -1 ∧ M' = M) ∨ (¬ (h < 0 ∨ 12 ≤ h ∨ f < 0 ∨ 12 ≤ f ∨ M 12 f = -1) ∧ (v < 0 ∨ 8 ≤ v) ∧ x = -2 ∧ M' = M) ∨ (¬ (h < 0 ∨ 12 ≤ h ∨ f < 0 ∨ 12 ≤ f ∨ M 12 f = -1) ∧ 0 ≤ v ∧ v < 8 ∧ finQ M h (okP M E0 (fun r => den M (M 12 f) (updI r (M 4 v) (if (0 : Int) = 0 then 0 else 1))) ∧ okP M (E1 (fun r => den M (M 12 f) (updI r (M 4 v) (if (0 : Int) = 0 then 0 else 1)))) (fun r => den M (M 12 f) (updI r (M 4 v) (if (1 : Int) = 0 then 0 else 1))) ∧ okP M (E2 (fun r => den M (M 12 f) (updI r (M 4 v) (if (0 : Int) = 0 then 0 else 1))) (fun r => den M (M 12 f) (updI r (M 4 v) (if (1 : Int) = 0 then 0 else 1)))) (fun r => tbl (tabF (if y = 0 then 5 else 4)) ((fun r => den M (M 12 f) (updI r (M 4 v) (if (0 : Int) = 0 then 0 else 1))) r) ((fun r => den M (M 12 f) (updI r (M 4 v) (if (1 : Int) = 0 then 0 else 1))) r) 0)) (fun r => tbl (tabF (if y = 0 then 5 else 4)) ((fun r => den M (M 12 f) (updI r (M 4 v) (if (0 : Int) = 0 then 0 else 1))) r) ((fun r => den M (M 12 f) (updI r (M 4 v) (if (1 : Int) = 0 then 0 else 1))) r) 0) x M')))) := by
  refine ZN_of (L := [_, _, _, _, _, _, _]) (by decide) rfl rfl (Nat.le_of_ble_eq_true rfl) rfl (fun hav => ?_)
  refine Z_iload_n (n := 1) dX3_quantify_0 rfl rfl ?_
  refine Z_callSi (n := 4) [_] _ dX3_quantify_1 rfl cwX3_123 rfl rfl (Nat.le_of_ble_eq_true rfl) (by refine ⟨?_, ?_, ?_, ?_⟩ <;> exact Nat.le_of_ble_eq_true rfl) (fun _ _ => trivial) (zX3_isHandle  ) ?_
  intro x1 M1 J1 z1 f1 q1
  obtain ⟨e1_1, e1_2, h1⟩ := q1
  replace e1_1 := e1_1.symm; subst e1_1
  replace e1_2 := e1_2.symm; subst e1_2
  refine Z_if_eq (n := 7) (t := 15) dX3_quantify_4 rfl (by decide) (fun c4 => ?_) (fun c4 => ?_)
  · refine Z_iconst (n := 16) dX3_quantify_15 rfl (by decide) ?_
    refine Z_iret dX3_quantify_16 rfl ?_
    exact ⟨rfl, hc, Or.inl ⟨by omega, rfl, rfl⟩⟩
  · refine Z_aload_n (n := 8) dX3_quantify_7 rfl rfl ?_
    refine Z_iload_n (n := 9) dX3_quantify_8 rfl rfl ?_
    refine Z_callVi (n := 12) [_] _ dX3_quantify_9 rfl cwX3_139 rfl rfl (by first | rfl | exact nS0 (nA_at (by omega) (by omega))) (Nat.le_of_ble_eq_true rfl) (by refine ⟨?_, ?_, ?_, ?_⟩ <;> exact Nat.le_of_ble_eq_true rfl) (fun _ _ => trivial) (zX3_hasFunction  ) ?_
    intro x9 M9 J9 z9 f9 q9
    obtain ⟨e9_1, e9_2, h9⟩ := q9
    replace e9_1 := e9_1.symm; subst e9_1
    replace e9_2 := e9_2.symm; subst e9_2
    refine Z_if_ne (n := 15) (t := 17) dX3_quantify_12 rfl (by decide) (fun c12 => ?_) (fun c12 => ?_)
    · refine Z_iload_n (n := 18) dX3_quantify_17 rfl rfl ?_
      refine Z_callSi (n := 21) [_] _ dX3_quantify_18 rfl cwX3_70 rfl rfl (Nat.le_of_ble_eq_true rfl) (by refine ⟨?_, ?_, ?_, ?_⟩ <;> exact Nat.le_of_ble_eq_true rfl) (fun _ _ => trivial) (zX3_isVariable  ) ?_
      intro x18 M18 J18 z18 f18 q18
      obtain ⟨e18_1, e18_2, h18⟩ := q18
      replace e18_1 := e18_1.symm; subst e18_1
      replace e18_2 := e18_2.symm; subst e18_2
      refine Z_if_ne (n := 24) (t := 27) dX3_quantify_21 rfl (by decide) (fun c21 => ?_) (fun c21 => ?_)
      · have gd : (0 ≤ h ∧ h < 12) ∧ (0 ≤ f ∧ f < 12 ∧ ¬ M 12 f = -1) ∧ 0 ≤ v ∧ v < 8 := by omega
        clear c4 c12 c21 h1 h9 h18
        refine Z_aload_n (n := 28) dX3_quantify_27 rfl rfl ?_
        have ct77 : ∀ (p q : Int) (M77 : zM) (J77 : zJ), (J77 = J) → (hvQ M M77 (fun r => den M (M 12 f) (updI r (M 4 v) (if (0 : Int) = 0 then 0 else 1))) (fun r => den M (M 12 f) (updI r (M 4 v) (if (1 : Int) = 0 then 0 else 1))) p q) → (M77 12 = M 12) → (-1 ≤ p ∧ p ≤ 251 ∧ -1 ≤ q ∧ q ≤ 251) → TZ G mX3_quantify (tl_rm 13 0 0) 0 0 kFc M J 77 [some (vR 0), some (vI h), some (vI f), some (vI v), some (vI y), some (vI p), some (vI q)] [] F1 M77 J77 (ZM G (zPost G kFc F1 M J (qI (fun x M' J' => J' = J ∧ cI M' ∧ (((h < 0 ∨ 12 ≤ h ∨ f < 0 ∨ 12 ≤ f ∨ M 12 f = -1) ∧ x = -1 ∧ M' = M) ∨ (¬ (h < 0 ∨ 12 ≤ h ∨ f < 0 ∨ 12 ≤ f ∨ M 12 f = -1) ∧ (v < 0 ∨ 8 ≤ v) ∧ x = -2 ∧ M' = M) ∨ (¬ (h < 0 ∨ 12 ≤ h ∨ f < 0 ∨ 12 ≤ f ∨ M 12 f = -1) ∧ 0 ≤ v ∧ v < 8 ∧ finQ M h (okP M E0 (fun r => den M (M 12 f) (updI r (M 4 v) (if (0 : Int) = 0 then 0 else 1))) ∧ okP M (E1 (fun r => den M (M 12 f) (updI r (M 4 v) (if (0 : Int) = 0 then 0 else 1)))) (fun r => den M (M 12 f) (updI r (M 4 v) (if (1 : Int) = 0 then 0 else 1))) ∧ okP M (E2 (fun r => den M (M 12 f) (updI r (M 4 v) (if (0 : Int) = 0 then 0 else 1))) (fun r => den M (M 12 f) (updI r (M 4 v) (if (1 : Int) = 0 then 0 else 1)))) (fun r => tbl (tabF (if y = 0 then 5 else 4)) ((fun r => den M (M 12 f) (updI r (M 4 v) (if (0 : Int) = 0 then 0 else 1))) r) ((fun r => den M (M 12 f) (updI r (M 4 v) (if (1 : Int) = 0 then 0 else 1))) r) 0)) (fun r => tbl (tabF (if y = 0 then 5 else 4)) ((fun r => den M (M 12 f) (updI r (M 4 v) (if (0 : Int) = 0 then 0 else 1))) r) ((fun r => den M (M 12 f) (updI r (M 4 v) (if (1 : Int) = 0 then 0 else 1))) r) 0) x M'))))) 0 0) := by
          intro p q M77 J77 i77_0 i77_1 i77_2 i77_3
          refine Z_rg 0 7 rfl (fun gc7 gc7b => ?_)
          obtain ⟨Ec, mdc⟩ := hv_mid i77_1
          have noc := mid_no mdc
          obtain ⟨Sc, hSc, hRc⟩ := mdc.1
          obtain ⟨op1, op2⟩ := hv_op i77_1
          refine Z_aload_n (n := 78) dX3_quantify_77 rfl rfl ?_
          refine Z_iload_n (n := 79) dX3_quantify_78 rfl rfl ?_
          refine Z_aload_n (n := 80) dX3_quantify_79 rfl rfl ?_
          refine Z_iload (n := 82) dX3_quantify_80 rfl rfl ?_
          refine Z_if_eq (n := 85) (t := 89) dX3_quantify_82 rfl (by decide) (fun c82 => ?_) (fun c82 => ?_)
          · refine Z_iconst (n := 90) dX3_quantify_89 rfl (by decide) ?_
            refine Z_iload (n := 92) dX3_quantify_90 rfl rfl ?_
            refine Z_iload (n := 94) dX3_quantify_92 rfl rfl ?_
            refine Z_iconst (n := 95) dX3_quantify_94 rfl (by decide) ?_
            have opC := op2
            have opB := op1
            refine Z_callVi (n := 98) [_, _, _, _] _ dX3_quantify_95 rfl cwX3_142 rfl rfl (by first | rfl | exact nS0 (nA_at (by omega) (by omega))) (Nat.le_of_ble_eq_true rfl) (by refine ⟨?_, ?_, ?_, ?_⟩ <;> exact Nat.le_of_ble_eq_true rfl) (fun a h => by unfold kFc at h; unfold kSt1; omega) (zX3_kindStep_f  (by omega) (by omega) (by exact opB) (by exact opC) (by exact Or.inr (Or.inl rfl)) (by exact hSc) (by exact hRc) (by exact noc)) ?_
            intro x95 M95 J95 z95 f95 q95
            obtain ⟨e95_1, sq95⟩ := q95
            replace e95_1 := e95_1.symm; subst e95_1
            have hqq := hv_fin (x := x95) (FT := (fun r => tbl (tabF (if y = 0 then 5 else 4)) ((fun r => den M (M 12 f) (updI r (M 4 v) (if (0 : Int) = 0 then 0 else 1))) r) ((fun r => den M (M 12 f) (updI r (M 4 v) (if (1 : Int) = 0 then 0 else 1))) r) 0)) i77_1 (f95 12 (by decide)).1 (f95 13 (by decide)).1 (f95 15 (by decide)).1 (by
              rcases sq95 with ⟨a, b, c⟩ | ⟨a, b⟩
              · exact Or.inl ⟨by omega, b, c⟩
              · refine Or.inr ⟨⟨a.1, a.2.1⟩, fun d e => ?_⟩
                rw [d, e] at b
                have z : (fun r => tbl (tabF (if y = 0 then 5 else 4)) ((fun r => den M (M 12 f) (updI r (M 4 v) (if (0 : Int) = 0 then 0 else 1))) r) ((fun r => den M (M 12 f) (updI r (M 4 v) (if (1 : Int) = 0 then 0 else 1))) r) 0) = fun r => tbl (tabF (if y = 0 then 5 else 4)) ((fun r => den M (M 12 f) (updI r (M 4 v) (if (0 : Int) = 0 then 0 else 1))) r) ((fun r => den M (M 12 f) (updI r (M 4 v) (if (1 : Int) = 0 then 0 else 1))) r) (den M77 0 r) := by
                  funext r
                  rw [den_0]
                rw [z]
                first
                  | (rw [if_pos (show y = 0 by omega)]; exact b)
                  | (rw [if_neg (show ¬ y = 0 by omega)]; exact b))
            obtain ⟨Eg, mdg, okg, dg, Sg, hSg, hRg, hxg⟩ := hqq
            refine Z_callVi (n := 101) [_, _] _ dX3_quantify_98 rfl cwX3_133 rfl rfl (by first | rfl | exact nS0 (nA_at (by omega) (by omega))) (Nat.le_of_ble_eq_true rfl) (by refine ⟨?_, ?_, ?_, ?_⟩ <;> exact Nat.le_of_ble_eq_true rfl) (fun a h => by unfold kFc at h; unfold kGive; omega) (zX3_give_f  (by omega) (by omega) (by exact hSg.1) (by exact hxg)) ?_
            intro x98 M98 J98 z98 f98 q98
            obtain ⟨e98_1, ng98, gv98⟩ := q98
            replace e98_1 := e98_1.symm; subst e98_1
            refine Z_fr (fun frR => ?_)
            have fq := fin_mk mdg (by omega) (by omega) hSg hRg hxg okg dg (fun a h1 h2 h3 h4 => (f98 a ⟨h1, h2, h3, h4⟩).1) ng98 gv98
            refine Z_iret dX3_quantify_101 rfl ?_
            exact ⟨i77_0, cI_fin hc fq frR, Or.inr (Or.inr ⟨by omega, by omega, by omega, fq⟩)⟩
          · refine Z_iconst (n := 86) dX3_quantify_85 rfl (by decide) ?_
            refine Z_goto (t := 90) dX3_quantify_86 (by decide) ?_
            refine Z_iload (n := 92) dX3_quantify_90 rfl rfl ?_
            refine Z_iload (n := 94) dX3_quantify_92 rfl rfl ?_
            refine Z_iconst (n := 95) dX3_quantify_94 rfl (by decide) ?_
            have opC := op2
            have opB := op1
            refine Z_callVi (n := 98) [_, _, _, _] _ dX3_quantify_95 rfl cwX3_142 rfl rfl (by first | rfl | exact nS0 (nA_at (by omega) (by omega))) (Nat.le_of_ble_eq_true rfl) (by refine ⟨?_, ?_, ?_, ?_⟩ <;> exact Nat.le_of_ble_eq_true rfl) (fun a h => by unfold kFc at h; unfold kSt1; omega) (zX3_kindStep_f  (by omega) (by omega) (by exact opB) (by exact opC) (by exact Or.inr (Or.inl rfl)) (by exact hSc) (by exact hRc) (by exact noc)) ?_
            intro x95 M95 J95 z95 f95 q95
            obtain ⟨e95_1, sq95⟩ := q95
            replace e95_1 := e95_1.symm; subst e95_1
            have hqq := hv_fin (x := x95) (FT := (fun r => tbl (tabF (if y = 0 then 5 else 4)) ((fun r => den M (M 12 f) (updI r (M 4 v) (if (0 : Int) = 0 then 0 else 1))) r) ((fun r => den M (M 12 f) (updI r (M 4 v) (if (1 : Int) = 0 then 0 else 1))) r) 0)) i77_1 (f95 12 (by decide)).1 (f95 13 (by decide)).1 (f95 15 (by decide)).1 (by
              rcases sq95 with ⟨a, b, c⟩ | ⟨a, b⟩
              · exact Or.inl ⟨by omega, b, c⟩
              · refine Or.inr ⟨⟨a.1, a.2.1⟩, fun d e => ?_⟩
                rw [d, e] at b
                have z : (fun r => tbl (tabF (if y = 0 then 5 else 4)) ((fun r => den M (M 12 f) (updI r (M 4 v) (if (0 : Int) = 0 then 0 else 1))) r) ((fun r => den M (M 12 f) (updI r (M 4 v) (if (1 : Int) = 0 then 0 else 1))) r) 0) = fun r => tbl (tabF (if y = 0 then 5 else 4)) ((fun r => den M (M 12 f) (updI r (M 4 v) (if (0 : Int) = 0 then 0 else 1))) r) ((fun r => den M (M 12 f) (updI r (M 4 v) (if (1 : Int) = 0 then 0 else 1))) r) (den M77 0 r) := by
                  funext r
                  rw [den_0]
                rw [z]
                first
                  | (rw [if_pos (show y = 0 by omega)]; exact b)
                  | (rw [if_neg (show ¬ y = 0 by omega)]; exact b))
            obtain ⟨Eg, mdg, okg, dg, Sg, hSg, hRg, hxg⟩ := hqq
            refine Z_callVi (n := 101) [_, _] _ dX3_quantify_98 rfl cwX3_133 rfl rfl (by first | rfl | exact nS0 (nA_at (by omega) (by omega))) (Nat.le_of_ble_eq_true rfl) (by refine ⟨?_, ?_, ?_, ?_⟩ <;> exact Nat.le_of_ble_eq_true rfl) (fun a h => by unfold kFc at h; unfold kGive; omega) (zX3_give_f  (by omega) (by omega) (by exact hSg.1) (by exact hxg)) ?_
            intro x98 M98 J98 z98 f98 q98
            obtain ⟨e98_1, ng98, gv98⟩ := q98
            replace e98_1 := e98_1.symm; subst e98_1
            refine Z_fr (fun frR => ?_)
            have fq := fin_mk mdg (by omega) (by omega) hSg hRg hxg okg dg (fun a h1 h2 h3 h4 => (f98 a ⟨h1, h2, h3, h4⟩).1) ng98 gv98
            refine Z_iret dX3_quantify_101 rfl ?_
            exact ⟨i77_0, cI_fin hc fq frR, Or.inr (Or.inr ⟨by omega, by omega, by omega, fq⟩)⟩
        refine Z_callVv (n := 31) [] _ dX3_quantify_28 rfl cwX3_126 rfl rfl (by first | rfl | exact nS0 (nA_at (by omega) (by omega))) (Nat.le_of_ble_eq_true rfl) (by refine ⟨?_, ?_, ?_, ?_⟩ <;> exact Nat.le_of_ble_eq_true rfl) (fun _ h => h) (zX3_beginSteps  (by decide)) ?_
        intro M28 J28 f28 q28
        obtain ⟨e28_1, e28_2⟩ := q28
        replace e28_1 := e28_1.symm; subst e28_1
        replace e28_2 := e28_2.symm; subst e28_2
        refine Z_nm (fun M28 e28 => ?_)
        have ob : ∀ a : Nat, ¬ a = 0 → M28 a = M a := fun a ha => by rw [e28]; exact uz_o ha
        have md0 : mid M M28 E0 := mid_0 hb ob (by rw [e28]; exact uz_n (by decide))
        have hdb : den M28 = den M := den_cg (ob 6 (by decide)) (ob 7 (by decide)) (ob 8 (by decide))
        have hOb : ordOK M28 := ordOK_fr hc.2.1 (ob 4 (by decide))
        have nb := mid_no md0
        obtain ⟨Sb, hSb, hRb⟩ := md0.1
        have n07b : M28 0 7 = 0 := by rw [e28, uz_n (by decide)]; exact hb.2.2.2
        clear e28
        refine Z_aload_n (n := 32) dX3_quantify_31 rfl rfl ?_
        refine Z_aload_n (n := 33) dX3_quantify_32 rfl rfl ?_
        refine Z_aload_n (n := 34) dX3_quantify_33 rfl rfl ?_
        refine Z_getA (n := 37) dX3_quantify_34 rfl ffX3_29 (by first | rfl | exact nS0 (nA_at (by omega) (by omega))) (by first | rfl | exact nS0 (nA_at (by omega) (by omega))) ?_
        refine Z_iload_n (n := 38) dX3_quantify_37 rfl rfl ?_
        refine Z_iald (n := 39) dX3_quantify_38 rfl (by first | rfl | exact nS0 (nA_at (by omega) (by omega))) rfl (by first | decide | assumption) (by omega) (by omega) (fun r38 s38 => ?_)
        refine Z_iload_n (n := 40) dX3_quantify_39 rfl rfl ?_
        refine Z_iconst (n := 41) dX3_quantify_40 rfl (by decide) ?_
        refine Z_callVi (n := 44) [_, _, _] _ dX3_quantify_41 rfl cwX3_145 rfl rfl (by first | rfl | exact nS0 (nA_at (by omega) (by omega))) (Nat.le_of_ble_eq_true rfl) (by refine ⟨?_, ?_, ?_, ?_⟩ <;> exact Nat.le_of_ble_eq_true rfl) (fun a h => by unfold kFc at h; unfold kSt1; omega) (zX3_fixStep_f  (by omega) (by omega) (by exact Or.inr (Or.inr ⟨Or.inl ⟨f, ⟨by omega, by omega⟩, rfl⟩, by rw [ob 12 (by decide)]; omega⟩)) (by exact hOb) (by exact hSb) (by exact hRb) (by exact nb)) ?_
        intro x41 M41 J41 z41 f41 q41
        obtain ⟨e41_1, sq41⟩ := q41
        replace e41_1 := e41_1.symm; subst e41_1
        have e12 : M28 12 = M 12 := ob 12 (by decide)
        have e4 : M28 4 = M 4 := ob 4 (by decide)
        have sqX := sq41
        rw [hdb, e12, e4] at sqX
        have n07 : M41 0 7 = 0 := (sqX.2.2.2.1).trans n07b
        have rb1 : -1 ≤ x41 ∧ x41 ≤ 251 := by
          obtain ⟨S, hS, -, hx⟩ := sqX.1
          rcases hx with z | z
          · omega
          · have := okN_in hS.1 z; omega
        refine Z_callVi (n := 47) [_] _ dX3_quantify_44 rfl cwX3_149 rfl rfl (by first | rfl | exact nS0 (nA_at (by omega) (by omega))) (Nat.le_of_ble_eq_true rfl) (by refine ⟨?_, ?_, ?_, ?_⟩ <;> exact Nat.le_of_ble_eq_true rfl) (fun a h => by unfold kFc at h; unfold kKeep; omega) (zX3_keep_f  (by omega) (by omega) (by rw [n07]; decide)) ?_
        intro x44 M44 J44 z44 f44 q44
        obtain ⟨e44_1, h44, kp44⟩ := q44
        replace e44_1 := e44_1.symm; subst e44_1
        obtain ⟨hv1, hv2, hv3⟩ := mid_sk md0 sqX (f41 12 (by decide)).1 (f41 13 (by decide)).1 (f41 15 (by decide)).1 (by omega) kp44
        have u12 : M44 12 = M 12 := ((f44 12 (by decide)).1).trans (((f41 12 (by decide)).1).trans e12)
        have u4 : M44 4 = M 4 := ((f44 4 (by decide)).1).trans (((f41 4 (by decide)).1).trans e4)
        have rb1k : -1 ≤ x44 ∧ x44 ≤ 251 := by omega
        refine Z_istore (L' := [_, _, _, _, _, _, _]) (n := 49) dX3_quantify_47 rfl (by decide) rfl rfl ?_
        refine Z_iload (n := 51) dX3_quantify_49 rfl rfl ?_
        refine Z_iconst (n := 52) dX3_quantify_51 rfl (by decide) ?_
        refine Z_icmp_ne (n := 55) (t := 59) dX3_quantify_52 rfl (by decide) (fun c52 => ?_) (fun c52 => ?_)
        · obtain ⟨-, -, md2, -, -⟩ := hv1.resolve_left (fun z => by omega)
          obtain ⟨S2, hS2, hR2⟩ := md2.1
          refine Z_rg 0 7 rfl (fun g07 g07b => ?_)
          refine Z_aload_n (n := 60) dX3_quantify_59 rfl rfl ?_
          refine Z_aload_n (n := 61) dX3_quantify_60 rfl rfl ?_
          refine Z_aload_n (n := 62) dX3_quantify_61 rfl rfl ?_
          refine Z_getA (n := 65) dX3_quantify_62 rfl ffX3_29 (by first | rfl | exact nS0 (nA_at (by omega) (by omega))) (by first | rfl | exact nS0 (nA_at (by omega) (by omega))) ?_
          refine Z_iload_n (n := 66) dX3_quantify_65 rfl rfl ?_
          refine Z_iald (n := 67) dX3_quantify_66 rfl (by first | rfl | exact nS0 (nA_at (by omega) (by omega))) rfl (by first | decide | assumption) (by omega) (by omega) (fun r66 s66 => ?_)
          refine Z_iload_n (n := 68) dX3_quantify_67 rfl rfl ?_
          refine Z_iconst (n := 69) dX3_quantify_68 rfl (by decide) ?_
          refine Z_callVi (n := 72) [_, _, _] _ dX3_quantify_69 rfl cwX3_145 rfl rfl (by first | rfl | exact nS0 (nA_at (by omega) (by omega))) (Nat.le_of_ble_eq_true rfl) (by refine ⟨?_, ?_, ?_, ?_⟩ <;> exact Nat.le_of_ble_eq_true rfl) (fun a h => by unfold kFc at h; unfold kSt1; omega) (zX3_fixStep_f  (by omega) (by omega) (by exact Or.inr (Or.inr ⟨Or.inl ⟨f, ⟨by omega, by omega⟩, rfl⟩, by rw [u12]; omega⟩)) (by exact ordOK_fr hc.2.1 u4) (by exact hS2) (by exact hR2) (by exact mid_no md2)) ?_
          intro x69 M69 J69 z69 f69 q69
          obtain ⟨e69_1, sq69⟩ := q69
          replace e69_1 := e69_1.symm; subst e69_1
          have sqY := sq69
          rw [u12, u4] at sqY
          have deq : (fun r => den M44 (M 12 f) (updI r (M 4 v) (if (1 : Int) = 0 then 0 else 1))) = (fun r => den M (M 12 f) (updI r (M 4 v) (if (1 : Int) = 0 then 0 else 1))) := by
            funext r
            rw [((md2.2.1 f (by omega) (by omega)).2).resolve_left (by omega)]
          rw [deq] at sqY
          have m07 : M69 0 7 = M44 0 7 := sqY.2.2.2.1
          have rb2 : -1 ≤ x69 ∧ x69 ≤ 251 := by
            obtain ⟨S, hS, -, hx⟩ := sqY.1
            rcases hx with z | z
            · omega
            · have := okN_in hS.1 z; omega
          refine Z_callVi (n := 75) [_] _ dX3_quantify_72 rfl cwX3_149 rfl rfl (by first | rfl | exact nS0 (nA_at (by omega) (by omega))) (Nat.le_of_ble_eq_true rfl) (by refine ⟨?_, ?_, ?_, ?_⟩ <;> exact Nat.le_of_ble_eq_true rfl) (fun a h => by unfold kFc at h; unfold kKeep; omega) (zX3_keep_f  (by omega) (by omega) (by rw [m07]; omega)) ?_
          intro x72 M72 J72 z72 f72 q72
          obtain ⟨e72_1, h72, kp72⟩ := q72
          replace e72_1 := e72_1.symm; subst e72_1
          obtain ⟨hw1, hw2, hw3⟩ := mid_sk md2 sqY (f69 12 (by decide)).1 (f69 13 (by decide)).1 (f69 15 (by decide)).1 g07 kp72
          have t12 : M72 12 = M 12 := ((f72 12 (by decide)).1).trans (((f69 12 (by decide)).1).trans u12)
          have hvX : hvQ M M72 (fun r => den M (M 12 f) (updI r (M 4 v) (if (0 : Int) = 0 then 0 else 1))) (fun r => den M (M 12 f) (updI r (M 4 v) (if (1 : Int) = 0 then 0 else 1))) x44 x72 := by
            rw [h44, h72]
            obtain ⟨-, ok1, -, rk1, dk1⟩ := hv1.resolve_left (fun z => by omega)
            have kk := hw2 _ _ rk1 (by omega) dk1
            rcases hw1 with ⟨a, b, c⟩ | ⟨a, b, c, d, e⟩
            · exact Or.inr (Or.inl ⟨by omega, a, ok1, b, c, kk.1⟩)
            · exact Or.inr (Or.inr ⟨by omega, a, ⟨ok1, b⟩, c, kk, d, e⟩)
          refine Z_istore (L' := [_, _, _, _, _, _, _]) (n := 77) dX3_quantify_75 rfl (by decide) rfl rfl ?_
          refine Z_loc (L' := [some _, some _, some _, some _, some _, some _, some _]) (lsub_same (lsub_same (lsub_same (lsub_same (lsub_same (lsub_same (lsub_same lsub_nil))))))) ?_
          exact ct77 _ _ _ _ (by first | rfl | assumption) (by exact hvX) (by exact t12) (by omega)
        · obtain ⟨-, nok, mdx⟩ := hv1.resolve_right (fun z => z.1 (by omega))
          have t12 := u12
          have hvX : hvQ M M44 (fun r => den M (M 12 f) (updI r (M 4 v) (if (0 : Int) = 0 then 0 else 1))) (fun r => den M (M 12 f) (updI r (M 4 v) (if (1 : Int) = 0 then 0 else 1))) x44 (-1) := Or.inl ⟨by omega, rfl, nok, mdx⟩
          refine Z_iconst (n := 56) dX3_quantify_55 rfl (by decide) ?_
          refine Z_goto (t := 75) dX3_quantify_56 (by decide) ?_
          refine Z_istore (L' := [_, _, _, _, _, _, _]) (n := 77) dX3_quantify_75 rfl (by decide) rfl rfl ?_
          refine Z_loc (L' := [some _, some _, some _, some _, some _, some _, some _]) (lsub_same (lsub_same (lsub_same (lsub_same (lsub_same (lsub_same (lsub_same lsub_nil))))))) ?_
          exact ct77 _ _ _ _ (by first | rfl | assumption) (by exact hvX) (by exact t12) (by omega)
      · refine Z_bipush (n := 26) dX3_quantify_24 rfl (by decide) (by decide) ?_
        refine Z_iret dX3_quantify_26 rfl ?_
        exact ⟨rfl, hc, Or.inr (Or.inl ⟨by omega, by omega, rfl, rfl⟩)⟩
    · refine Z_iconst (n := 16) dX3_quantify_15 rfl (by decide) ?_
      refine Z_iret dX3_quantify_16 rfl ?_
      exact ⟨rfl, hc, Or.inl ⟨by omega, rfl, rfl⟩⟩
end
section
/-! ===== the class: compose ===== -/
set_option maxRecDepth 20000 in
theorem zX3_compose_f {G : tl_G} {M : zM} {J : zJ} {h f v g : Int} (hc : cI M) (hb : CB M) : ZN G yX3_compose mX3_compose 13 kFc [vR 0, vI h, vI f, vI v, vI g] F1 M J (qI (fun x M' J' => J' = J ∧ cI M' ∧ (((h < 0 ∨ 12 ≤ h ∨ f < 0 ∨ 12 ≤ f ∨ M 12 f = -1 ∨ g < 0 ∨ 12 ≤ g ∨ M 12 g = -1) ∧ x = -1 ∧ M' = M) ∨ (¬ (h < 0 ∨ 12 ≤ h ∨ f < 0 ∨ 12 ≤ f ∨ M 12 f = -1 ∨ g < 0 ∨ 12 ≤ g ∨ M 12 g = -1) ∧ (v < 0 ∨ 8 ≤ v) ∧ x = -2 ∧ M' = M) ∨ (¬ (h < 0 ∨ 12 ≤ h ∨ f < 0 ∨ 12 ≤ f ∨ M 12 f = -1 ∨ g < 0 ∨ 12 ≤ g ∨ M 12 g = -1) ∧ 0 ≤ v ∧ v < 8 ∧ finQ M h (okP M E0 (fun r => den M (M 12 f) (updI r (M 4 v) (if (0 : Int) = 0 then 0 else 1))) ∧ okP M (E1 (fun r => den M (M 12 f) (updI r (M 4 v) (if (0 : Int) = 0 then 0 else 1)))) (fun r => den M (M 12 f) (updI r (M 4 v) (if (1 : Int) = 0 then 0 else 1))) ∧ okP M (E2 (fun r => den M (M 12 f) (updI r (M 4 v) (if (0 : Int) = 0 then 0 else 1))) (fun r => den M (M 12 f) (updI r (M 4 v) (if (1 : Int) = 0 then 0 else 1)))) (fun r => tbl (tabF 10) (den M (M 12 g) r) ((fun r => den M (M 12 f) (updI r (M 4 v) (if (1 : Int) = 0 then 0 else 1))) r) ((fun r => den M (M 12 f) (updI r (M 4 v) (if (0 : Int) = 0 then 0 else 1))) r))) (fun r => tbl (tabF 10) (den M (M 12 g) r) ((fun r => den M (M 12 f) (updI r (M 4 v) (if (1 : Int) = 0 then 0 else 1))) r) ((fun r => den M (M 12 f) (updI r (M 4 v) (if (0 : Int) = 0 then 0 else 1))) r)) x M')))) := by
  refine ZN_of (L := [_, _, _, _, _, _, _]) (by decide) rfl rfl (Nat.le_of_ble_eq_true rfl) rfl (fun hav => ?_)
  refine Z_iload_n (n := 1) dX3_compose_0 rfl rfl ?_
  refine Z_callSi (n := 4) [_] _ dX3_compose_1 rfl cwX3_123 rfl rfl (Nat.le_of_ble_eq_true rfl) (by refine ⟨?_, ?_, ?_, ?_⟩ <;> exact Nat.le_of_ble_eq_true rfl) (fun _ _ => trivial) (zX3_isHandle  ) ?_
  intro x1 M1 J1 z1 f1 q1
  obtain ⟨e1_1, e1_2, h1⟩ := q1
  replace e1_1 := e1_1.symm; subst e1_1
  replace e1_2 := e1_2.symm; subst e1_2
  refine Z_if_eq (n := 7) (t := 24) dX3_compose_4 rfl (by decide) (fun c4 => ?_) (fun c4 => ?_)
  · refine Z_iconst (n := 25) dX3_compose_24 rfl (by decide) ?_
    refine Z_iret dX3_compose_25 rfl ?_
    exact ⟨rfl, hc, Or.inl ⟨by omega, rfl, rfl⟩⟩
  · refine Z_aload_n (n := 8) dX3_compose_7 rfl rfl ?_
    refine Z_iload_n (n := 9) dX3_compose_8 rfl rfl ?_
    refine Z_callVi (n := 12) [_] _ dX3_compose_9 rfl cwX3_139 rfl rfl (by first | rfl | exact nS0 (nA_at (by omega) (by omega))) (Nat.le_of_ble_eq_true rfl) (by refine ⟨?_, ?_, ?_, ?_⟩ <;> exact Nat.le_of_ble_eq_true rfl) (fun _ _ => trivial) (zX3_hasFunction  ) ?_
    intro x9 M9 J9 z9 f9 q9
    obtain ⟨e9_1, e9_2, h9⟩ := q9
    replace e9_1 := e9_1.symm; subst e9_1
    replace e9_2 := e9_2.symm; subst e9_2
    refine Z_if_eq (n := 15) (t := 24) dX3_compose_12 rfl (by decide) (fun c12 => ?_) (fun c12 => ?_)
    · refine Z_iconst (n := 25) dX3_compose_24 rfl (by decide) ?_
      refine Z_iret dX3_compose_25 rfl ?_
      exact ⟨rfl, hc, Or.inl ⟨by omega, rfl, rfl⟩⟩
    · refine Z_aload_n (n := 16) dX3_compose_15 rfl rfl ?_
      refine Z_iload (n := 18) dX3_compose_16 rfl rfl ?_
      refine Z_callVi (n := 21) [_] _ dX3_compose_18 rfl cwX3_139 rfl rfl (by first | rfl | exact nS0 (nA_at (by omega) (by omega))) (Nat.le_of_ble_eq_true rfl) (by refine ⟨?_, ?_, ?_, ?_⟩ <;> exact Nat.le_of_ble_eq_true rfl) (fun _ _ => trivial) (zX3_hasFunction  ) ?_
      intro x18 M18 J18 z18 f18 q18
      obtain ⟨e18_1, e18_2, h18⟩ := q18
      replace e18_1 := e18_1.symm; subst e18_1
      replace e18_2 := e18_2.symm; subst e18_2
      refine Z_if_ne (n := 24) (t := 26) dX3_compose_21 rfl (by decide) (fun c21 => ?_) (fun c21 => ?_)
      · refine Z_iload_n (n := 27) dX3_compose_26 rfl rfl ?_
        refine Z_callSi (n := 30) [_] _ dX3_compose_27 rfl cwX3_70 rfl rfl (Nat.le_of_ble_eq_true rfl) (by refine ⟨?_, ?_, ?_, ?_⟩ <;> exact Nat.le_of_ble_eq_true rfl) (fun _ _ => trivial) (zX3_isVariable  ) ?_
        intro x27 M27 J27 z27 f27 q27
        obtain ⟨e27_1, e27_2, h27⟩ := q27
        replace e27_1 := e27_1.symm; subst e27_1
        replace e27_2 := e27_2.symm; subst e27_2
        refine Z_if_ne (n := 33) (t := 36) dX3_compose_30 rfl (by decide) (fun c30 => ?_) (fun c30 => ?_)
        · have gd : (0 ≤ h ∧ h < 12) ∧ (0 ≤ f ∧ f < 12 ∧ ¬ M 12 f = -1) ∧ (0 ≤ g ∧ g < 12 ∧ ¬ M 12 g = -1) ∧ 0 ≤ v ∧ v < 8 := by omega
          clear c4 c12 c21 c30 h1 h9 h18 h27
          refine Z_aload_n (n := 37) dX3_compose_36 rfl rfl ?_
          have ct86 : ∀ (p q : Int) (M86 : zM) (J86 : zJ), (J86 = J) → (hvQ M M86 (fun r => den M (M 12 f) (updI r (M 4 v) (if (0 : Int) = 0 then 0 else 1))) (fun r => den M (M 12 f) (updI r (M 4 v) (if (1 : Int) = 0 then 0 else 1))) p q) → (M86 12 = M 12) → (-1 ≤ p ∧ p ≤ 251 ∧ -1 ≤ q ∧ q ≤ 251) → TZ G mX3_compose (tl_rm 13 0 0) 0 0 kFc M J 86 [some (vR 0), some (vI h), some (vI f), some (vI v), some (vI g), some (vI p), some (vI q)] [] F1 M86 J86 (ZM G (zPost G kFc F1 M J (qI (fun x M' J' => J' = J ∧ cI M' ∧ (((h < 0 ∨ 12 ≤ h ∨ f < 0 ∨ 12 ≤ f ∨ M 12 f = -1 ∨ g < 0 ∨ 12 ≤ g ∨ M 12 g = -1) ∧ x = -1 ∧ M' = M) ∨ (¬ (h < 0 ∨ 12 ≤ h ∨ f < 0 ∨ 12 ≤ f ∨ M 12 f = -1 ∨ g < 0 ∨ 12 ≤ g ∨ M 12 g = -1) ∧ (v < 0 ∨ 8 ≤ v) ∧ x = -2 ∧ M' = M) ∨ (¬ (h < 0 ∨ 12 ≤ h ∨ f < 0 ∨ 12 ≤ f ∨ M 12 f = -1 ∨ g < 0 ∨ 12 ≤ g ∨ M 12 g = -1) ∧ 0 ≤ v ∧ v < 8 ∧ finQ M h (okP M E0 (fun r => den M (M 12 f) (updI r (M 4 v) (if (0 : Int) = 0 then 0 else 1))) ∧ okP M (E1 (fun r => den M (M 12 f) (updI r (M 4 v) (if (0 : Int) = 0 then 0 else 1)))) (fun r => den M (M 12 f) (updI r (M 4 v) (if (1 : Int) = 0 then 0 else 1))) ∧ okP M (E2 (fun r => den M (M 12 f) (updI r (M 4 v) (if (0 : Int) = 0 then 0 else 1))) (fun r => den M (M 12 f) (updI r (M 4 v) (if (1 : Int) = 0 then 0 else 1)))) (fun r => tbl (tabF 10) (den M (M 12 g) r) ((fun r => den M (M 12 f) (updI r (M 4 v) (if (1 : Int) = 0 then 0 else 1))) r) ((fun r => den M (M 12 f) (updI r (M 4 v) (if (0 : Int) = 0 then 0 else 1))) r))) (fun r => tbl (tabF 10) (den M (M 12 g) r) ((fun r => den M (M 12 f) (updI r (M 4 v) (if (1 : Int) = 0 then 0 else 1))) r) ((fun r => den M (M 12 f) (updI r (M 4 v) (if (0 : Int) = 0 then 0 else 1))) r)) x M'))))) 0 0) := by
            intro p q M86 J86 i86_0 i86_1 i86_2 i86_3
            refine Z_rg 0 7 rfl (fun gc7 gc7b => ?_)
            obtain ⟨Ec, mdc⟩ := hv_mid i86_1
            have noc := mid_no mdc
            obtain ⟨Sc, hSc, hRc⟩ := mdc.1
            obtain ⟨op1, op2⟩ := hv_op i86_1
            refine Z_aload_n (n := 87) dX3_compose_86 rfl rfl ?_
            refine Z_iload_n (n := 88) dX3_compose_87 rfl rfl ?_
            refine Z_aload_n (n := 89) dX3_compose_88 rfl rfl ?_
            refine Z_bipush (n := 91) dX3_compose_89 rfl (by decide) (by decide) ?_
            refine Z_aload_n (n := 92) dX3_compose_91 rfl rfl ?_
            refine Z_getA (n := 95) dX3_compose_92 rfl ffX3_29 (by first | rfl | exact nS0 (nA_at (by omega) (by omega))) (by first | rfl | exact nS0 (nA_at (by omega) (by omega))) ?_
            refine Z_iload (n := 97) dX3_compose_95 rfl rfl ?_
            refine Z_iald (n := 98) dX3_compose_97 rfl (by first | rfl | exact nS0 (nA_at (by omega) (by omega))) rfl (by first | decide | assumption) (by omega) (by omega) (fun r97 s97 => ?_)
            refine Z_iload (n := 100) dX3_compose_98 rfl rfl ?_
            refine Z_iload (n := 102) dX3_compose_100 rfl rfl ?_
            have opC := op2
            have opB := op1
            refine Z_callVi (n := 105) [_, _, _, _] _ dX3_compose_102 rfl cwX3_142 rfl rfl (by first | rfl | exact nS0 (nA_at (by omega) (by omega))) (Nat.le_of_ble_eq_true rfl) (by refine ⟨?_, ?_, ?_, ?_⟩ <;> exact Nat.le_of_ble_eq_true rfl) (fun a h => by unfold kFc at h; unfold kSt1; omega) (zX3_kindStep_f  (by omega) (by omega) (by exact Or.inr (Or.inr (Or.inr ⟨Or.inl ⟨g, ⟨by omega, by omega⟩, rfl⟩, by rw [i86_2]; omega⟩))) (by exact opC) (by exact opB) (by exact hSc) (by exact hRc) (by exact noc)) ?_
            intro x102 M102 J102 z102 f102 q102
            obtain ⟨e102_1, sq102⟩ := q102
            replace e102_1 := e102_1.symm; subst e102_1
            have hqq := hv_fin (x := x102) (FT := (fun r => tbl (tabF 10) (den M (M 12 g) r) ((fun r => den M (M 12 f) (updI r (M 4 v) (if (1 : Int) = 0 then 0 else 1))) r) ((fun r => den M (M 12 f) (updI r (M 4 v) (if (0 : Int) = 0 then 0 else 1))) r))) i86_1 (f102 12 (by decide)).1 (f102 13 (by decide)).1 (f102 15 (by decide)).1 (by
              rcases sq102 with ⟨a, b, c⟩ | ⟨a, b⟩
              · refine Or.inl ⟨?_, b, c⟩
                rw [i86_2] at a
                omega
              · refine Or.inr ⟨⟨a.2.2, a.2.1⟩, fun d e => ?_⟩
                rw [d, e, i86_2, ((mdc.2.1 g (by omega) (by omega)).2).resolve_left (by omega)] at b
                exact b)
            obtain ⟨Eg, mdg, okg, dg, Sg, hSg, hRg, hxg⟩ := hqq
            refine Z_callVi (n := 108) [_, _] _ dX3_compose_105 rfl cwX3_133 rfl rfl (by first | rfl | exact nS0 (nA_at (by omega) (by omega))) (Nat.le_of_ble_eq_true rfl) (by refine ⟨?_, ?_, ?_, ?_⟩ <;> exact Nat.le_of_ble_eq_true rfl) (fun a h => by unfold kFc at h; unfold kGive; omega) (zX3_give_f  (by omega) (by omega) (by exact hSg.1) (by exact hxg)) ?_
            intro x105 M105 J105 z105 f105 q105
            obtain ⟨e105_1, ng105, gv105⟩ := q105
            replace e105_1 := e105_1.symm; subst e105_1
            refine Z_fr (fun frR => ?_)
            have fq := fin_mk mdg (by omega) (by omega) hSg hRg hxg okg dg (fun a h1 h2 h3 h4 => (f105 a ⟨h1, h2, h3, h4⟩).1) ng105 gv105
            refine Z_iret dX3_compose_108 rfl ?_
            exact ⟨i86_0, cI_fin hc fq frR, Or.inr (Or.inr ⟨by omega, by omega, by omega, fq⟩)⟩
          refine Z_callVv (n := 40) [] _ dX3_compose_37 rfl cwX3_126 rfl rfl (by first | rfl | exact nS0 (nA_at (by omega) (by omega))) (Nat.le_of_ble_eq_true rfl) (by refine ⟨?_, ?_, ?_, ?_⟩ <;> exact Nat.le_of_ble_eq_true rfl) (fun _ h => h) (zX3_beginSteps  (by decide)) ?_
          intro M37 J37 f37 q37
          obtain ⟨e37_1, e37_2⟩ := q37
          replace e37_1 := e37_1.symm; subst e37_1
          replace e37_2 := e37_2.symm; subst e37_2
          refine Z_nm (fun M37 e37 => ?_)
          have ob : ∀ a : Nat, ¬ a = 0 → M37 a = M a := fun a ha => by rw [e37]; exact uz_o ha
          have md0 : mid M M37 E0 := mid_0 hb ob (by rw [e37]; exact uz_n (by decide))
          have hdb : den M37 = den M := den_cg (ob 6 (by decide)) (ob 7 (by decide)) (ob 8 (by decide))
          have hOb : ordOK M37 := ordOK_fr hc.2.1 (ob 4 (by decide))
          have nb := mid_no md0
          obtain ⟨Sb, hSb, hRb⟩ := md0.1
          have n07b : M37 0 7 = 0 := by rw [e37, uz_n (by decide)]; exact hb.2.2.2
          clear e37
          refine Z_aload_n (n := 41) dX3_compose_40 rfl rfl ?_
          refine Z_aload_n (n := 42) dX3_compose_41 rfl rfl ?_
          refine Z_aload_n (n := 43) dX3_compose_42 rfl rfl ?_
          refine Z_getA (n := 46) dX3_compose_43 rfl ffX3_29 (by first | rfl | exact nS0 (nA_at (by omega) (by omega))) (by first | rfl | exact nS0 (nA_at (by omega) (by omega))) ?_
          refine Z_iload_n (n := 47) dX3_compose_46 rfl rfl ?_
          refine Z_iald (n := 48) dX3_compose_47 rfl (by first | rfl | exact nS0 (nA_at (by omega) (by omega))) rfl (by first | decide | assumption) (by omega) (by omega) (fun r47 s47 => ?_)
          refine Z_iload_n (n := 49) dX3_compose_48 rfl rfl ?_
          refine Z_iconst (n := 50) dX3_compose_49 rfl (by decide) ?_
          refine Z_callVi (n := 53) [_, _, _] _ dX3_compose_50 rfl cwX3_145 rfl rfl (by first | rfl | exact nS0 (nA_at (by omega) (by omega))) (Nat.le_of_ble_eq_true rfl) (by refine ⟨?_, ?_, ?_, ?_⟩ <;> exact Nat.le_of_ble_eq_true rfl) (fun a h => by unfold kFc at h; unfold kSt1; omega) (zX3_fixStep_f  (by omega) (by omega) (by exact Or.inr (Or.inr ⟨Or.inl ⟨f, ⟨by omega, by omega⟩, rfl⟩, by rw [ob 12 (by decide)]; omega⟩)) (by exact hOb) (by exact hSb) (by exact hRb) (by exact nb)) ?_
          intro x50 M50 J50 z50 f50 q50
          obtain ⟨e50_1, sq50⟩ := q50
          replace e50_1 := e50_1.symm; subst e50_1
          have e12 : M37 12 = M 12 := ob 12 (by decide)
          have e4 : M37 4 = M 4 := ob 4 (by decide)
          have sqX := sq50
          rw [hdb, e12, e4] at sqX
          have n07 : M50 0 7 = 0 := (sqX.2.2.2.1).trans n07b
          have rb1 : -1 ≤ x50 ∧ x50 ≤ 251 := by
            obtain ⟨S, hS, -, hx⟩ := sqX.1
            rcases hx with z | z
            · omega
            · have := okN_in hS.1 z; omega
          refine Z_callVi (n := 56) [_] _ dX3_compose_53 rfl cwX3_149 rfl rfl (by first | rfl | exact nS0 (nA_at (by omega) (by omega))) (Nat.le_of_ble_eq_true rfl) (by refine ⟨?_, ?_, ?_, ?_⟩ <;> exact Nat.le_of_ble_eq_true rfl) (fun a h => by unfold kFc at h; unfold kKeep; omega) (zX3_keep_f  (by omega) (by omega) (by rw [n07]; decide)) ?_
          intro x53 M53 J53 z53 f53 q53
          obtain ⟨e53_1, h53, kp53⟩ := q53
          replace e53_1 := e53_1.symm; subst e53_1
          obtain ⟨hv1, hv2, hv3⟩ := mid_sk md0 sqX (f50 12 (by decide)).1 (f50 13 (by decide)).1 (f50 15 (by decide)).1 (by omega) kp53
          have u12 : M53 12 = M 12 := ((f53 12 (by decide)).1).trans (((f50 12 (by decide)).1).trans e12)
          have u4 : M53 4 = M 4 := ((f53 4 (by decide)).1).trans (((f50 4 (by decide)).1).trans e4)
          have rb1k : -1 ≤ x53 ∧ x53 ≤ 251 := by omega
          refine Z_istore (L' := [_, _, _, _, _, _, _]) (n := 58) dX3_compose_56 rfl (by decide) rfl rfl ?_
          refine Z_iload (n := 60) dX3_compose_58 rfl rfl ?_
          refine Z_iconst (n := 61) dX3_compose_60 rfl (by decide) ?_
          refine Z_icmp_ne (n := 64) (t := 68) dX3_compose_61 rfl (by decide) (fun c61 => ?_) (fun c61 => ?_)
          · obtain ⟨-, -, md2, -, -⟩ := hv1.resolve_left (fun z => by omega)
            obtain ⟨S2, hS2, hR2⟩ := md2.1
            refine Z_rg 0 7 rfl (fun g07 g07b => ?_)
            refine Z_aload_n (n := 69) dX3_compose_68 rfl rfl ?_
            refine Z_aload_n (n := 70) dX3_compose_69 rfl rfl ?_
            refine Z_aload_n (n := 71) dX3_compose_70 rfl rfl ?_
            refine Z_getA (n := 74) dX3_compose_71 rfl ffX3_29 (by first | rfl | exact nS0 (nA_at (by omega) (by omega))) (by first | rfl | exact nS0 (nA_at (by omega) (by omega))) ?_
            refine Z_iload_n (n := 75) dX3_compose_74 rfl rfl ?_
            refine Z_iald (n := 76) dX3_compose_75 rfl (by first | rfl | exact nS0 (nA_at (by omega) (by omega))) rfl (by first | decide | assumption) (by omega) (by omega) (fun r75 s75 => ?_)
            refine Z_iload_n (n := 77) dX3_compose_76 rfl rfl ?_
            refine Z_iconst (n := 78) dX3_compose_77 rfl (by decide) ?_
            refine Z_callVi (n := 81) [_, _, _] _ dX3_compose_78 rfl cwX3_145 rfl rfl (by first | rfl | exact nS0 (nA_at (by omega) (by omega))) (Nat.le_of_ble_eq_true rfl) (by refine ⟨?_, ?_, ?_, ?_⟩ <;> exact Nat.le_of_ble_eq_true rfl) (fun a h => by unfold kFc at h; unfold kSt1; omega) (zX3_fixStep_f  (by omega) (by omega) (by exact Or.inr (Or.inr ⟨Or.inl ⟨f, ⟨by omega, by omega⟩, rfl⟩, by rw [u12]; omega⟩)) (by exact ordOK_fr hc.2.1 u4) (by exact hS2) (by exact hR2) (by exact mid_no md2)) ?_
            intro x78 M78 J78 z78 f78 q78
            obtain ⟨e78_1, sq78⟩ := q78
            replace e78_1 := e78_1.symm; subst e78_1
            have sqY := sq78
            rw [u12, u4] at sqY
            have deq : (fun r => den M53 (M 12 f) (updI r (M 4 v) (if (1 : Int) = 0 then 0 else 1))) = (fun r => den M (M 12 f) (updI r (M 4 v) (if (1 : Int) = 0 then 0 else 1))) := by
              funext r
              rw [((md2.2.1 f (by omega) (by omega)).2).resolve_left (by omega)]
            rw [deq] at sqY
            have m07 : M78 0 7 = M53 0 7 := sqY.2.2.2.1
            have rb2 : -1 ≤ x78 ∧ x78 ≤ 251 := by
              obtain ⟨S, hS, -, hx⟩ := sqY.1
              rcases hx with z | z
              · omega
              · have := okN_in hS.1 z; omega
            refine Z_callVi (n := 84) [_] _ dX3_compose_81 rfl cwX3_149 rfl rfl (by first | rfl | exact nS0 (nA_at (by omega) (by omega))) (Nat.le_of_ble_eq_true rfl) (by refine ⟨?_, ?_, ?_, ?_⟩ <;> exact Nat.le_of_ble_eq_true rfl) (fun a h => by unfold kFc at h; unfold kKeep; omega) (zX3_keep_f  (by omega) (by omega) (by rw [m07]; omega)) ?_
            intro x81 M81 J81 z81 f81 q81
            obtain ⟨e81_1, h81, kp81⟩ := q81
            replace e81_1 := e81_1.symm; subst e81_1
            obtain ⟨hw1, hw2, hw3⟩ := mid_sk md2 sqY (f78 12 (by decide)).1 (f78 13 (by decide)).1 (f78 15 (by decide)).1 g07 kp81
            have t12 : M81 12 = M 12 := ((f81 12 (by decide)).1).trans (((f78 12 (by decide)).1).trans u12)
            have hvX : hvQ M M81 (fun r => den M (M 12 f) (updI r (M 4 v) (if (0 : Int) = 0 then 0 else 1))) (fun r => den M (M 12 f) (updI r (M 4 v) (if (1 : Int) = 0 then 0 else 1))) x53 x81 := by
              rw [h53, h81]
              obtain ⟨-, ok1, -, rk1, dk1⟩ := hv1.resolve_left (fun z => by omega)
              have kk := hw2 _ _ rk1 (by omega) dk1
              rcases hw1 with ⟨a, b, c⟩ | ⟨a, b, c, d, e⟩
              · exact Or.inr (Or.inl ⟨by omega, a, ok1, b, c, kk.1⟩)
              · exact Or.inr (Or.inr ⟨by omega, a, ⟨ok1, b⟩, c, kk, d, e⟩)
            refine Z_istore (L' := [_, _, _, _, _, _, _]) (n := 86) dX3_compose_84 rfl (by decide) rfl rfl ?_
            refine Z_loc (L' := [some _, some _, some _, some _, some _, some _, some _]) (lsub_same (lsub_same (lsub_same (lsub_same (lsub_same (lsub_same (lsub_same lsub_nil))))))) ?_
            exact ct86 _ _ _ _ (by first | rfl | assumption) (by exact hvX) (by exact t12) (by omega)
          · obtain ⟨-, nok, mdx⟩ := hv1.resolve_right (fun z => z.1 (by omega))
            have t12 := u12
            have hvX : hvQ M M53 (fun r => den M (M 12 f) (updI r (M 4 v) (if (0 : Int) = 0 then 0 else 1))) (fun r => den M (M 12 f) (updI r (M 4 v) (if (1 : Int) = 0 then 0 else 1))) x53 (-1) := Or.inl ⟨by omega, rfl, nok, mdx⟩
            refine Z_iconst (n := 65) dX3_compose_64 rfl (by decide) ?_
            refine Z_goto (t := 84) dX3_compose_65 (by decide) ?_
            refine Z_istore (L' := [_, _, _, _, _, _, _]) (n := 86) dX3_compose_84 rfl (by decide) rfl rfl ?_
            refine Z_loc (L' := [some _, some _, some _, some _, some _, some _, some _]) (lsub_same (lsub_same (lsub_same (lsub_same (lsub_same (lsub_same (lsub_same lsub_nil))))))) ?_
            exact ct86 _ _ _ _ (by first | rfl | assumption) (by exact hvX) (by exact t12) (by omega)
        · refine Z_bipush (n := 35) dX3_compose_33 rfl (by decide) (by decide) ?_
          refine Z_iret dX3_compose_35 rfl ?_
          exact ⟨rfl, hc, Or.inr (Or.inl ⟨by omega, by omega, rfl, rfl⟩)⟩
      · refine Z_iconst (n := 25) dX3_compose_24 rfl (by decide) ?_
        refine Z_iret dX3_compose_25 rfl ?_
        exact ⟨rfl, hc, Or.inl ⟨by omega, rfl, rfl⟩⟩
end
