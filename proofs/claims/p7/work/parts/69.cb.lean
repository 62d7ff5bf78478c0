/-! ===== the class: compose ===== -/
set_option maxRecDepth 20000 in
theorem zX3_compose_f {G : tl_G} {M : zM} {J : zJ} {h f v g : Int} (hc : cI M) (hb : CB M) : ZN G yX3_compose mX3_compose 13 kFc [vR 0, vI h, vI f, vI v, vI g] F1 M J (qI (fun x M' J' => J' = J ∧ cI M' ∧ (((h < 0 ∨ 12 ≤ h ∨ f < 0 ∨ 12 ≤ f ∨ M 12 f = -1 ∨ g < 0 ∨ 12 ≤ g ∨ M 12 g = -1) ∧ x = -1 ∧ M' = M) ∨ (¬ (h < 0 ∨ 12 ≤ h ∨ f < 0 ∨ 12 ≤ f ∨ M 12 f = -1 ∨ g < 0 ∨ 12 ≤ g ∨ M 12 g = -1) ∧ (v < 0 ∨ 8 ≤ v) ∧ x = -2 ∧ M' = M) ∨ (¬ (h < 0 ∨ 12 ≤ h ∨ f < 0 ∨ 12 ≤ f ∨ M 12 f = -1 ∨ g < 0 ∨ 12 ≤ g ∨ M 12 g = -1) ∧ 0 ≤ v ∧ v < 8 ∧ finQ M h (okP M E0 (fun r => den M (M 12 f) (updI r (M 4 v) (if (0 : Int) = 0 then 0 else 1))) ∧ okP M (E1 (fun r => den M (M 12 f) (updI r (M 4 v) (if (0 : Int) = 0 then 0 else 1)))) (fun r => den M (M 12 f) (updI r (M 4 v) (if (1 : Int) = 0 then 0 else 1))) ∧ okP M (E2 (fun r => den M (M 12 f) (updI r (M 4 v) (if (0 : Int) = 0 then 0 else 1))) (fun r => den M (M 12 f) (updI r (M 4 v) (if (1 : Int) = 0 then 0 else 1)))) (fun r => tbl (tabF 10) (den M (M 12 g) r) ((fun r => den M (M 12 f) (updI r (M 4 v) (if (1 : Int) = 0 then 0 else 1))) r) ((fun r => den M (M 12 f) (updI r (M 4 v) (if (0 : Int) = 0 then 0 else 1))) r))) (fun r => tbl (tabF 10) (den M (M 12 g) r) ((fun r => den M (M 12 f) (updI r (M 4 v) (if (1 : Int) = 0 then 0 else 1))) r) ((fun r => den M (M 12 f) (updI r (M 4 v) (if (0 : Int) = 0 then 0 else 1))) r)) x M')))) := by
  refine ZN_of (L := [_, _, _, _, _, _, _]) (by decide) rfl rfl (Nat.le_of_ble_eq_true rfl) rfl (fun hav => ?_)
  refine Z_iload_n (n := 1) dX3_compose_0 rfl rfl ?_
  refine Z_callSi (n := 4) [_] _ dX3_compose_1 rfl cwX3_123 rfl rfl (Nat.le_of_ble_eq_true rfl) (by refine ⟨?_, ?_, ?_, ?_⟩ <;> exact Nat.le_of_ble_eq_true rfl) (fun _ _ => trivial) (zX3_isHandle  ) ?_
  intro x1 M1 J1 z1 f1 q1
  obtain ⟨e1_1, e1_2, h1⟩ := q1
  replace e1_1 := e1_1.symm; subst e1_1
  replace e1_2 := e1_2.symm; subst e1_2
  refine Z_if_eq (n := 7) (t := 24) dX3_compose_4 rfl (by decide) (fun c4 => ?_) (fun c4 => ?_)
  · refine Z_iconst (n := 25) dX3_compose_24 rfl (by decide) ?_
    refine Z_iret dX3_compose_25 rfl ?_
    exact ⟨rfl, hc, Or.inl ⟨by omega, rfl, rfl⟩⟩
  · refine Z_aload_n (n := 8) dX3_compose_7 rfl rfl ?_
    refine Z_iload_n (n := 9) dX3_compose_8 rfl rfl ?_
    refine Z_callVi (n := 12) [_] _ dX3_compose_9 rfl cwX3_139 rfl rfl (by first | rfl | exact nS0 (nA_at (by omega) (by omega))) (Nat.le_of_ble_eq_true rfl) (by refine ⟨?_, ?_, ?_, ?_⟩ <;> exact Nat.le_of_ble_eq_true rfl) (fun _ _ => trivial) (zX3_hasFunction  ) ?_
    intro x9 M9 J9 z9 f9 q9
    obtain ⟨e9_1, e9_2, h9⟩ := q9
    replace e9_1 := e9_1.symm; subst e9_1
    replace e9_2 := e9_2.symm; subst e9_2
    refine Z_if_eq (n := 15) (t := 24) dX3_compose_12 rfl (by decide) (fun c12 => ?_) (fun c12 => ?_)
    · refine Z_iconst (n := 25) dX3_compose_24 rfl (by decide) ?_
      refine Z_iret dX3_compose_25 rfl ?_
      exact ⟨rfl, hc, Or.inl ⟨by omega, rfl, rfl⟩⟩
    · refine Z_aload_n (n := 16) dX3_compose_15 rfl rfl ?_
      refine Z_iload (n := 18) dX3_compose_16 rfl rfl ?_
      refine Z_callVi (n := 21) [_] _ dX3_compose_18 rfl cwX3_139 rfl rfl (by first | rfl | exact nS0 (nA_at (by omega) (by omega))) (Nat.le_of_ble_eq_true rfl) (by refine ⟨?_, ?_, ?_, ?_⟩ <;> exact Nat.le_of_ble_eq_true rfl) (fun _ _ => trivial) (zX3_hasFunction  ) ?_
      intro x18 M18 J18 z18 f18 q18
      obtain ⟨e18_1, e18_2, h18⟩ := q18
      replace e18_1 := e18_1.symm; subst e18_1
      replace e18_2 := e18_2.symm; subst e18_2
      refine Z_if_ne (n := 24) (t := 26) dX3_compose_21 rfl (by decide) (fun c21 => ?_) (fun c21 => ?_)
      · refine Z_iload_n (n := 27) dX3_compose_26 rfl rfl ?_
        refine Z_callSi (n := 30) [_] _ dX3_compose_27 rfl cwX3_70 rfl rfl (Nat.le_of_ble_eq_true rfl) (by refine ⟨?_, ?_, ?_, ?_⟩ <;> exact Nat.le_of_ble_eq_true rfl) (fun _ _ => trivial) (zX3_isVariable  ) ?_
        intro x27 M27 J27 z27 f27 q27
        obtain ⟨e27_1, e27_2, h27⟩ := q27
        replace e27_1 := e27_1.symm; subst e27_1
        replace e27_2 := e27_2.symm; subst e27_2
        refine Z_if_ne (n := 33) (t := 36) dX3_compose_30 rfl (by decide) (fun c30 => ?_) (fun c30 => ?_)
        · have gd : (0 ≤ h ∧ h < 12) ∧ (0 ≤ f ∧ f < 12 ∧ ¬ M 12 f = -1) ∧ (0 ≤ g ∧ g < 12 ∧ ¬ M 12 g = -1) ∧ 0 ≤ v ∧ v < 8 := by omega
          clear c4 c12 c21 c30 h1 h9 h18 h27
          refine Z_aload_n (n := 37) dX3_compose_36 rfl rfl ?_
          have ct86 : ∀ (p q : Int) (M86 : zM) (J86 : zJ), (J86 = J) → (hvQ M M86 (fun r => den M (M 12 f) (updI r (M 4 v) (if (0 : Int) = 0 then 0 else 1))) (fun r => den M (M 12 f) (updI r (M 4 v) (if (1 : Int) = 0 then 0 else 1))) p q) → (M86 12 = M 12) → (-1 ≤ p ∧ p ≤ 251 ∧ -1 ≤ q ∧ q ≤ 251) → TZ G mX3_compose (tl_rm 13 0 0) 0 0 kFc M J 86 [some (vR 0), some (vI h), some (vI f), some (vI v), some (vI g), some (vI p), some (vI q)] [] F1 M86 J86 (ZM G (zPost G kFc F1 M J (qI (fun x M' J' => J' = J ∧ cI M' ∧ (((h < 0 ∨ 12 ≤ h ∨ f < 0 ∨ 12 ≤ f ∨ M 12 f = -1 ∨ g < 0 ∨ 12 ≤ g ∨ M 12 g = -1) ∧ x = -1 ∧ M' = M) ∨ (¬ (h < 0 ∨ 12 ≤ h ∨ f < 0 ∨ 12 ≤ f ∨ M 12 f = -1 ∨ g < 0 ∨ 12 ≤ g ∨ M 12 g = -1) ∧ (v < 0 ∨ 8 ≤ v) ∧ x = -2 ∧ M' = M) ∨ (¬ (h < 0 ∨ 12 ≤ h ∨ f < 0 ∨ 12 ≤ f ∨ M 12 f = -1 ∨ g < 0 ∨ 12 ≤ g ∨ M 12 g = -1) ∧ 0 ≤ v ∧ v < 8 ∧ finQ M h (okP M E0 (fun r => den M (M 12 f) (updI r (M 4 v) (if (0 : Int) = 0 then 0 else 1))) ∧ okP M (E1 (fun r => den M (M 12 f) (updI r (M 4 v) (if (0 : Int) = 0 then 0 else 1)))) (fun r => den M (M 12 f) (updI r (M 4 v) (if (1 : Int) = 0 then 0 else 1))) ∧ okP M (E2 (fun r => den M (M 12 f) (updI r (M 4 v) (if (0 : Int) = 0 then 0 else 1))) (fun r => den M (M 12 f) (updI r (M 4 v) (if (1 : Int) = 0 then 0 else 1)))) (fun r => tbl (tabF 10) (den M (M 12 g) r) ((fun r => den M (M 12 f) (updI r (M 4 v) (if (1 : Int) = 0 then 0 else 1))) r) ((fun r => den M (M 12 f) (updI r (M 4 v) (if (0 : Int) = 0 then 0 else 1))) r))) (fun r => tbl (tabF 10) (den M (M 12 g) r) ((fun r => den M (M 12 f) (updI r (M 4 v) (if (1 : Int) = 0 then 0 else 1))) r) ((fun r => den M (M 12 f) (updI r (M 4 v) (if (0 : Int) = 0 then 0 else 1))) r)) x M'))))) 0 0) := by
            intro p q M86 J86 i86_0 i86_1 i86_2 i86_3
            refine Z_rg 0 7 rfl (fun gc7 gc7b => ?_)
            obtain ⟨Ec, mdc⟩ := hv_mid i86_1
            have noc := mid_no mdc
            obtain ⟨Sc, hSc, hRc⟩ := mdc.1
            obtain ⟨op1, op2⟩ := hv_op i86_1
            refine Z_aload_n (n := 87) dX3_compose_86 rfl rfl ?_
            refine Z_iload_n (n := 88) dX3_compose_87 rfl rfl ?_
            refine Z_aload_n (n := 89) dX3_compose_88 rfl rfl ?_
            refine Z_bipush (n := 91) dX3_compose_89 rfl (by decide) (by decide) ?_
            refine Z_aload_n (n := 92) dX3_compose_91 rfl rfl ?_
            refine Z_getA (n := 95) dX3_compose_92 rfl ffX3_29 (by first | rfl | exact nS0 (nA_at (by omega) (by omega))) (by first | rfl | exact nS0 (nA_at (by omega) (by omega))) ?_
            refine Z_iload (n := 97) dX3_compose_95 rfl rfl ?_
            refine Z_iald (n := 98) dX3_compose_97 rfl (by first | rfl | exact nS0 (nA_at (by omega) (by omega))) rfl (by first | decide | assumption) (by omega) (by omega) (fun r97 s97 => ?_)
            refine Z_iload (n := 100) dX3_compose_98 rfl rfl ?_
            refine Z_iload (n := 102) dX3_compose_100 rfl rfl ?_
            have opC := op2
            have opB := op1
            refine Z_callVi (n := 105) [_, _, _, _] _ dX3_compose_102 rfl cwX3_142 rfl rfl (by first | rfl | exact nS0 (nA_at (by omega) (by omega))) (Nat.le_of_ble_eq_true rfl) (by refine ⟨?_, ?_, ?_, ?_⟩ <;> exact Nat.le_of_ble_eq_true rfl) (fun a h => by unfold kFc at h; unfold kSt1; omega) (zX3_kindStep_f  (by omega) (by omega) (by exact Or.inr (Or.inr (Or.inr ⟨Or.inl ⟨g, ⟨by omega, by omega⟩, rfl⟩, by rw [i86_2]; omega⟩))) (by exact opC) (by exact opB) (by exact hSc) (by exact hRc) (by exact noc)) ?_
            intro x102 M102 J102 z102 f102 q102
            obtain ⟨e102_1, sq102⟩ := q102
            replace e102_1 := e102_1.symm; subst e102_1
            have hqq := hv_fin (x := x102) (FT := (fun r => tbl (tabF 10) (den M (M 12 g) r) ((fun r => den M (M 12 f) (updI r (M 4 v) (if (1 : Int) = 0 then 0 else 1))) r) ((fun r => den M (M 12 f) (updI r (M 4 v) (if (0 : Int) = 0 then 0 else 1))) r))) i86_1 (f102 12 (by decide)).1 (f102 13 (by decide)).1 (f102 15 (by decide)).1 (by
              rcases sq102 with ⟨a, b, c⟩ | ⟨a, b⟩
              · refine Or.inl ⟨?_, b, c⟩
                rw [i86_2] at a
                omega
              · refine Or.inr ⟨⟨a.2.2, a.2.1⟩, fun d e => ?_⟩
                rw [d, e, i86_2, ((mdc.2.1 g (by omega) (by omega)).2).resolve_left (by omega)] at b
                exact b)
            obtain ⟨Eg, mdg, okg, dg, Sg, hSg, hRg, hxg⟩ := hqq
            refine Z_callVi (n := 108) [_, _] _ dX3_compose_105 rfl cwX3_133 rfl rfl (by first | rfl | exact nS0 (nA_at (by omega) (by omega))) (Nat.le_of_ble_eq_true rfl) (by refine ⟨?_, ?_, ?_, ?_⟩ <;> exact Nat.le_of_ble_eq_true rfl) (fun a h => by unfold kFc at h; unfold kGive; omega) (zX3_give_f  (by omega) (by omega) (by exact hSg.1) (by exact hxg)) ?_
            intro x105 M105 J105 z105 f105 q105
            obtain ⟨e105_1, ng105, gv105⟩ := q105
            replace e105_1 := e105_1.symm; subst e105_1
            refine Z_fr (fun frR => ?_)
            have fq := fin_mk mdg (by omega) (by omega) hSg hRg hxg okg dg (fun a h1 h2 h3 h4 => (f105 a ⟨h1, h2, h3, h4⟩).1) ng105 gv105
            refine Z_iret dX3_compose_108 rfl ?_
            exact ⟨i86_0, cI_fin hc fq frR, Or.inr (Or.inr ⟨by omega, by omega, by omega, fq⟩)⟩
          refine Z_callVv (n := 40) [] _ dX3_compose_37 rfl cwX3_126 rfl rfl (by first | rfl | exact nS0 (nA_at (by omega) (by omega))) (Nat.le_of_ble_eq_true rfl) (by refine ⟨?_, ?_, ?_, ?_⟩ <;> exact Nat.le_of_ble_eq_true rfl) (fun _ h => h) (zX3_beginSteps  (by decide)) ?_
          intro M37 J37 f37 q37
          obtain ⟨e37_1, e37_2⟩ := q37
          replace e37_1 := e37_1.symm; subst e37_1
          replace e37_2 := e37_2.symm; subst e37_2
          refine Z_nm (fun M37 e37 => ?_)
          have ob : ∀ a : Nat, ¬ a = 0 → M37 a = M a := fun a ha => by rw [e37]; exact uz_o ha
          have md0 : mid M M37 E0 := mid_0 hb ob (by rw [e37]; exact uz_n (by decide))
          have hdb : den M37 = den M := den_cg (ob 6 (by decide)) (ob 7 (by decide)) (ob 8 (by decide))
          have hOb : ordOK M37 := ordOK_fr hc.2.1 (ob 4 (by decide))
          have nb := mid_no md0
          obtain ⟨Sb, hSb, hRb⟩ := md0.1
          have n07b : M37 0 7 = 0 := by rw [e37, uz_n (by decide)]; exact hb.2.2.2
          clear e37
          refine Z_aload_n (n := 41) dX3_compose_40 rfl rfl ?_
          refine Z_aload_n (n := 42) dX3_compose_41 rfl rfl ?_
          refine Z_aload_n (n := 43) dX3_compose_42 rfl rfl ?_
          refine Z_getA (n := 46) dX3_compose_43 rfl ffX3_29 (by first | rfl | exact nS0 (nA_at (by omega) (by omega))) (by first | rfl | exact nS0 (nA_at (by omega) (by omega))) ?_
          refine Z_iload_n (n := 47) dX3_compose_46 rfl rfl ?_
          refine Z_iald (n := 48) dX3_compose_47 rfl (by first | rfl | exact nS0 (nA_at (by omega) (by omega))) rfl (by first | decide | assumption) (by omega) (by omega) (fun r47 s47 => ?_)
          refine Z_iload_n (n := 49) dX3_compose_48 rfl rfl ?_
          refine Z_iconst (n := 50) dX3_compose_49 rfl (by decide) ?_
          refine Z_callVi (n := 53) [_, _, _] _ dX3_compose_50 rfl cwX3_145 rfl rfl (by first | rfl | exact nS0 (nA_at (by omega) (by omega))) (Nat.le_of_ble_eq_true rfl) (by refine ⟨?_, ?_, ?_, ?_⟩ <;> exact Nat.le_of_ble_eq_true rfl) (fun a h => by unfold kFc at h; unfold kSt1; omega) (zX3_fixStep_f  (by omega) (by omega) (by exact Or.inr (Or.inr ⟨Or.inl ⟨f, ⟨by omega, by omega⟩, rfl⟩, by rw [ob 12 (by decide)]; omega⟩)) (by exact hOb) (by exact hSb) (by exact hRb) (by exact nb)) ?_
          intro x50 M50 J50 z50 f50 q50
          obtain ⟨e50_1, sq50⟩ := q50
          replace e50_1 := e50_1.symm; subst e50_1
          have e12 : M37 12 = M 12 := ob 12 (by decide)
          have e4 : M37 4 = M 4 := ob 4 (by decide)
          have sqX := sq50
          rw [hdb, e12, e4] at sqX
          have n07 : M50 0 7 = 0 := (sqX.2.2.2.1).trans n07b
          have rb1 : -1 ≤ x50 ∧ x50 ≤ 251 := by
            obtain ⟨S, hS, -, hx⟩ := sqX.1
            rcases hx with z | z
            · omega
            · have := okN_in hS.1 z; omega
          refine Z_callVi (n := 56) [_] _ dX3_compose_53 rfl cwX3_149 rfl rfl (by first | rfl | exact nS0 (nA_at (by omega) (by omega))) (Nat.le_of_ble_eq_true rfl) (by refine ⟨?_, ?_, ?_, ?_⟩ <;> exact Nat.le_of_ble_eq_true rfl) (fun a h => by unfold kFc at h; unfold kKeep; omega) (zX3_keep_f  (by omega) (by omega) (by rw [n07]; decide)) ?_
          intro x53 M53 J53 z53 f53 q53
          obtain ⟨e53_1, h53, kp53⟩ := q53
          replace e53_1 := e53_1.symm; subst e53_1
          obtain ⟨hv1, hv2, hv3⟩ := mid_sk md0 sqX (f50 12 (by decide)).1 (f50 13 (by decide)).1 (f50 15 (by decide)).1 (by omega) kp53
          have u12 : M53 12 = M 12 := ((f53 12 (by decide)).1).trans (((f50 12 (by decide)).1).trans e12)
          have u4 : M53 4 = M 4 := ((f53 4 (by decide)).1).trans (((f50 4 (by decide)).1).trans e4)
          have rb1k : -1 ≤ x53 ∧ x53 ≤ 251 := by omega
          refine Z_istore (L' := [_, _, _, _, _, _, _]) (n := 58) dX3_compose_56 rfl (by decide) rfl rfl ?_
          refine Z_iload (n := 60) dX3_compose_58 rfl rfl ?_
          refine Z_iconst (n := 61) dX3_compose_60 rfl (by decide) ?_
          refine Z_icmp_ne (n := 64) (t := 68) dX3_compose_61 rfl (by decide) (fun c61 => ?_) (fun c61 => ?_)
          · obtain ⟨-, -, md2, -, -⟩ := hv1.resolve_left (fun z => by omega)
            obtain ⟨S2, hS2, hR2⟩ := md2.1
            refine Z_rg 0 7 rfl (fun g07 g07b => ?_)
            refine Z_aload_n (n := 69) dX3_compose_68 rfl rfl ?_
            refine Z_aload_n (n := 70) dX3_compose_69 rfl rfl ?_
            refine Z_aload_n (n := 71) dX3_compose_70 rfl rfl ?_
            refine Z_getA (n := 74) dX3_compose_71 rfl ffX3_29 (by first | rfl | exact nS0 (nA_at (by omega) (by omega))) (by first | rfl | exact nS0 (nA_at (by omega) (by omega))) ?_
            refine Z_iload_n (n := 75) dX3_compose_74 rfl rfl ?_
            refine Z_iald (n := 76) dX3_compose_75 rfl (by first | rfl | exact nS0 (nA_at (by omega) (by omega))) rfl (by first | decide | assumption) (by omega) (by omega) (fun r75 s75 => ?_)
            refine Z_iload_n (n := 77) dX3_compose_76 rfl rfl ?_
            refine Z_iconst (n := 78) dX3_compose_77 rfl (by decide) ?_
            refine Z_callVi (n := 81) [_, _, _] _ dX3_compose_78 rfl cwX3_145 rfl rfl (by first | rfl | exact nS0 (nA_at (by omega) (by omega))) (Nat.le_of_ble_eq_true rfl) (by refine ⟨?_, ?_, ?_, ?_⟩ <;> exact Nat.le_of_ble_eq_true rfl) (fun a h => by unfold kFc at h; unfold kSt1; omega) (zX3_fixStep_f  (by omega) (by omega) (by exact Or.inr (Or.inr ⟨Or.inl ⟨f, ⟨by omega, by omega⟩, rfl⟩, by rw [u12]; omega⟩)) (by exact ordOK_fr hc.2.1 u4) (by exact hS2) (by exact hR2) (by exact mid_no md2)) ?_
            intro x78 M78 J78 z78 f78 q78
            obtain ⟨e78_1, sq78⟩ := q78
            replace e78_1 := e78_1.symm; subst e78_1
            have sqY := sq78
            rw [u12, u4] at sqY
            have deq : (fun r => den M53 (M 12 f) (updI r (M 4 v) (if (1 : Int) = 0 then 0 else 1))) = (fun r => den M (M 12 f) (updI r (M 4 v) (if (1 : Int) = 0 then 0 else 1))) := by
              funext r
              rw [((md2.2.1 f (by omega) (by omega)).2).resolve_left (by omega)]
            rw [deq] at sqY
            have m07 : M78 0 7 = M53 0 7 := sqY.2.2.2.1
            have rb2 : -1 ≤ x78 ∧ x78 ≤ 251 := by
              obtain ⟨S, hS, -, hx⟩ := sqY.1
              rcases hx with z | z
              · omega
              · have := okN_in hS.1 z; omega
            refine Z_callVi (n := 84) [_] _ dX3_compose_81 rfl cwX3_149 rfl rfl (by first | rfl | exact nS0 (nA_at (by omega) (by omega))) (Nat.le_of_ble_eq_true rfl) (by refine ⟨?_, ?_, ?_, ?_⟩ <;> exact Nat.le_of_ble_eq_true rfl) (fun a h => by unfold kFc at h; unfold kKeep; omega) (zX3_keep_f  (by omega) (by omega) (by rw [m07]; omega)) ?_
            intro x81 M81 J81 z81 f81 q81
            obtain ⟨e81_1, h81, kp81⟩ := q81
            replace e81_1 := e81_1.symm; subst e81_1
            obtain ⟨hw1, hw2, hw3⟩ := mid_sk md2 sqY (f78 12 (by decide)).1 (f78 13 (by decide)).1 (f78 15 (by decide)).1 g07 kp81
            have t12 : M81 12 = M 12 := ((f81 12 (by decide)).1).trans (((f78 12 (by decide)).1).trans u12)
            have hvX : hvQ M M81 (fun r => den M (M 12 f) (updI r (M 4 v) (if (0 : Int) = 0 then 0 else 1))) (fun r => den M (M 12 f) (updI r (M 4 v) (if (1 : Int) = 0 then 0 else 1))) x53 x81 := by
              rw [h53, h81]
              obtain ⟨-, ok1, -, rk1, dk1⟩ := hv1.resolve_left (fun z => by omega)
              have kk := hw2 _ _ rk1 (by omega) dk1
              rcases hw1 with ⟨a, b, c⟩ | ⟨a, b, c, d, e⟩
              · exact Or.inr (Or.inl ⟨by omega, a, ok1, b, c, kk.1⟩)
              · exact Or.inr (Or.inr ⟨by omega, a, ⟨ok1, b⟩, c, kk, d, e⟩)
            refine Z_istore (L' := [_, _, _, _, _, _, _]) (n := 86) dX3_compose_84 rfl (by decide) rfl rfl ?_
            refine Z_loc (L' := [some _, some _, some _, some _, some _, some _, some _]) (lsub_same (lsub_same (lsub_same (lsub_same (lsub_same (lsub_same (lsub_same lsub_nil))))))) ?_
            exact ct86 _ _ _ _ (by first | rfl | assumption) (by exact hvX) (by exact t12) (by omega)
          · obtain ⟨-, nok, mdx⟩ := hv1.resolve_right (fun z => z.1 (by omega))
            have t12 := u12
            have hvX : hvQ M M53 (fun r => den M (M 12 f) (updI r (M 4 v) (if (0 : Int) = 0 then 0 else 1))) (fun r => den M (M 12 f) (updI r (M 4 v) (if (1 : Int) = 0 then 0 else 1))) x53 (-1) := Or.inl ⟨by omega, rfl, nok, mdx⟩
            refine Z_iconst (n := 65) dX3_compose_64 rfl (by decide) ?_
            refine Z_goto (t := 84) dX3_compose_65 (by decide) ?_
            refine Z_istore (L' := [_, _, _, _, _, _, _]) (n := 86) dX3_compose_84 rfl (by decide) rfl rfl ?_
            refine Z_loc (L' := [some _, some _, some _, some _, some _, some _, some _]) (lsub_same (lsub_same (lsub_same (lsub_same (lsub_same (lsub_same (lsub_same lsub_nil))))))) ?_
            exact ct86 _ _ _ _ (by first | rfl | assumption) (by exact hvX) (by exact t12) (by omega)
        · refine Z_bipush (n := 35) dX3_compose_33 rfl (by decide) (by decide) ?_
          refine Z_iret dX3_compose_35 rfl ?_
          exact ⟨rfl, hc, Or.inr (Or.inl ⟨by omega, by omega, rfl, rfl⟩)⟩
      · refine Z_iconst (n := 25) dX3_compose_24 rfl (by decide) ?_
        refine Z_iret dX3_compose_25 rfl ?_
        exact ⟨rfl, hc, Or.inl ⟨by omega, rfl, rfl⟩⟩
