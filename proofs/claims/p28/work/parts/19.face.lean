/-! ===== the class: its face, second half ===== -/
set_option maxRecDepth 20000 in
theorem zX3_quantify {G : tl_G} {M : zM} {J : zJ} {h f v y : Int} (hc : cI M) : ZN G yX3_quantify mX3_quantify 13 kPub [vR 0, vI h, vI f, vI v, vI y] F1 M J (qI (fun x M' J' => J' = J ∧ cI M' ∧ (noH M → x = -1))) := by
  refine ZN_of (L := [_, _, _, _, _, _, _]) (by decide) rfl rfl (Nat.le_of_ble_eq_true rfl) rfl (fun hav => ?_)
  refine Z_iload_n (n := 1) dX3_quantify_0 rfl rfl ?_
  refine Z_callSi (n := 4) [_] _ dX3_quantify_1 rfl cwX3_123 rfl rfl (Nat.le_of_ble_eq_true rfl) (by refine ⟨?_, ?_, ?_, ?_⟩ <;> exact Nat.le_of_ble_eq_true rfl) (fun _ _ => trivial) (zX3_isHandle  ) ?_
  intro x1 M1 J1 z1 f1 q1
  obtain ⟨e1_1, e1_2, h1⟩ := q1
  replace e1_1 := e1_1.symm; subst e1_1
  replace e1_2 := e1_2.symm; subst e1_2
  refine Z_if_eq (n := 7) (t := 15) dX3_quantify_4 rfl (by decide) (fun c4 => ?_) (fun c4 => ?_)
  · refine Z_iconst (n := 16) dX3_quantify_15 rfl (by decide) ?_
    refine Z_iret dX3_quantify_16 rfl ?_
    exact ⟨rfl, hc, fun _ => rfl⟩
  · refine Z_aload_n (n := 8) dX3_quantify_7 rfl rfl ?_
    refine Z_iload_n (n := 9) dX3_quantify_8 rfl rfl ?_
    refine Z_callVi (n := 12) [_] _ dX3_quantify_9 rfl cwX3_139 rfl rfl (by first | rfl | exact nS0 (nA_at (by omega) (by omega))) (Nat.le_of_ble_eq_true rfl) (by refine ⟨?_, ?_, ?_, ?_⟩ <;> exact Nat.le_of_ble_eq_true rfl) (fun _ _ => trivial) (zX3_hasFunction  ) ?_
    intro x9 M9 J9 z9 f9 q9
    obtain ⟨e9_1, e9_2, h9⟩ := q9
    replace e9_1 := e9_1.symm; subst e9_1
    replace e9_2 := e9_2.symm; subst e9_2
    refine Z_if_ne (n := 15) (t := 17) dX3_quantify_12 rfl (by decide) (fun c12 => ?_) (fun c12 => ?_)
    · refine Z_iload_n (n := 18) dX3_quantify_17 rfl rfl ?_
      refine Z_callSi (n := 21) [_] _ dX3_quantify_18 rfl cwX3_70 rfl rfl (Nat.le_of_ble_eq_true rfl) (by refine ⟨?_, ?_, ?_, ?_⟩ <;> exact Nat.le_of_ble_eq_true rfl) (fun _ _ => trivial) (zX3_isVariable  ) ?_
      intro x18 M18 J18 z18 f18 q18
      obtain ⟨e18_1, e18_2, h18⟩ := q18
      replace e18_1 := e18_1.symm; subst e18_1
      replace e18_2 := e18_2.symm; subst e18_2
      refine Z_if_ne (n := 24) (t := 27) dX3_quantify_21 rfl (by decide) (fun c21 => ?_) (fun c21 => ?_)
      · refine Z_aload_n (n := 28) dX3_quantify_27 rfl rfl ?_
        refine Z_callVv (n := 31) [] _ dX3_quantify_28 rfl cwX3_126 rfl rfl (by first | rfl | exact nS0 (nA_at (by omega) (by omega))) (Nat.le_of_ble_eq_true rfl) (by refine ⟨?_, ?_, ?_, ?_⟩ <;> exact Nat.le_of_ble_eq_true rfl) (fun _ h => h) (zX3_beginSteps  (by exact fun h => by unfold kPub at h; omega)) ?_
        intro M28 J28 f28 q28
        obtain ⟨e28_1, e28_2⟩ := q28
        replace e28_1 := e28_1.symm; subst e28_1
        replace e28_2 := e28_2.symm; subst e28_2
        have ct77 : ∀ (p q : Int) (M77 : zM) (J77 : zJ), (J77 = J) → (-1 ≤ p) → (p ≤ 251) → (-1 ≤ q) → (q ≤ 251) → (pI M77) → (M77 4 = M 4) → TZ G mX3_quantify (tl_rm 13 0 0) 0 0 kPub M J 77 [some (vR 0), some (vI h), some (vI f), some (vI v), some (vI y), some (vI p), some (vI q)] [] F1 M77 J77 (ZM G (zPost G kPub F1 M J (qI (fun x M' J' => J' = J ∧ cI M' ∧ (noH M → x = -1)))) 0 0) := by
          intro p q M77 J77 i77_0 i77_1 i77_2 i77_3 i77_4 i77_5 i77_6
          refine Z_aload_n (n := 78) dX3_quantify_77 rfl rfl ?_
          refine Z_iload_n (n := 79) dX3_quantify_78 rfl rfl ?_
          refine Z_aload_n (n := 80) dX3_quantify_79 rfl rfl ?_
          refine Z_iload (n := 82) dX3_quantify_80 rfl rfl ?_
          refine Z_if_eq (n := 85) (t := 89) dX3_quantify_82 rfl (by decide) (fun c82 => ?_) (fun c82 => ?_)
          · refine Z_iconst (n := 90) dX3_quantify_89 rfl (by decide) ?_
            refine Z_iload (n := 92) dX3_quantify_90 rfl rfl ?_
            refine Z_iload (n := 94) dX3_quantify_92 rfl rfl ?_
            refine Z_iconst (n := 95) dX3_quantify_94 rfl (by decide) ?_
            refine Z_callVi (n := 98) [_, _, _, _] _ dX3_quantify_95 rfl cwX3_142 rfl rfl (by first | rfl | exact nS0 (nA_at (by omega) (by omega))) (Nat.le_of_ble_eq_true rfl) (by refine ⟨?_, ?_, ?_, ?_⟩ <;> exact Nat.le_of_ble_eq_true rfl) (fun a h => by unfold kPub at h; unfold kStep; omega) (zX3_kindStep  (by omega) (by omega) (by omega) (by omega) (by omega) (by omega) (by omega) (by omega) (by assumption)) ?_
            intro x95 M95 J95 z95 f95 q95
            obtain ⟨e95_1, l95, u95, pi95, -⟩ := q95
            replace e95_1 := e95_1.symm; subst e95_1
            refine Z_callVi (n := 101) [_, _] _ dX3_quantify_98 rfl cwX3_133 rfl rfl (by first | rfl | exact nS0 (nA_at (by omega) (by omega))) (Nat.le_of_ble_eq_true rfl) (by refine ⟨?_, ?_, ?_, ?_⟩ <;> exact Nat.le_of_ble_eq_true rfl) (fun a h => by unfold kPub at h; unfold kGive; omega) (zX3_give  (by first | assumption | omega | decide) (by first | assumption | omega | decide) (by first | assumption | omega | decide) (by first | assumption | omega | decide)) ?_
            intro x98 M98 J98 z98 f98 q98
            obtain ⟨e98_1, h98⟩ := q98
            replace e98_1 := e98_1.symm; subst e98_1
            refine Z_fr (fun frR => ?_)
            refine Z_iret dX3_quantify_101 rfl ?_
            refine ⟨i77_0, cI_mk hc frR (pI_fr pi95 (f98 5 (by decide)).1 (f98 6 (by decide)).1 (f98 10 (by decide)).1 (f98 11 (by decide)).1) (ordOK_fr hc.2.1 (((f98 4 (by decide)).1).trans (((f95 4 (by decide)).1).trans i77_6))), fun q => by have := q f (by omega) (by omega); omega⟩
          · refine Z_iconst (n := 86) dX3_quantify_85 rfl (by decide) ?_
            refine Z_goto (t := 90) dX3_quantify_86 (by decide) ?_
            refine Z_iload (n := 92) dX3_quantify_90 rfl rfl ?_
            refine Z_iload (n := 94) dX3_quantify_92 rfl rfl ?_
            refine Z_iconst (n := 95) dX3_quantify_94 rfl (by decide) ?_
            refine Z_callVi (n := 98) [_, _, _, _] _ dX3_quantify_95 rfl cwX3_142 rfl rfl (by first | rfl | exact nS0 (nA_at (by omega) (by omega))) (Nat.le_of_ble_eq_true rfl) (by refine ⟨?_, ?_, ?_, ?_⟩ <;> exact Nat.le_of_ble_eq_true rfl) (fun a h => by unfold kPub at h; unfold kStep; omega) (zX3_kindStep  (by omega) (by omega) (by omega) (by omega) (by omega) (by omega) (by omega) (by omega) (by assumption)) ?_
            intro x95 M95 J95 z95 f95 q95
            obtain ⟨e95_1, l95, u95, pi95, -⟩ := q95
            replace e95_1 := e95_1.symm; subst e95_1
            refine Z_callVi (n := 101) [_, _] _ dX3_quantify_98 rfl cwX3_133 rfl rfl (by first | rfl | exact nS0 (nA_at (by omega) (by omega))) (Nat.le_of_ble_eq_true rfl) (by refine ⟨?_, ?_, ?_, ?_⟩ <;> exact Nat.le_of_ble_eq_true rfl) (fun a h => by unfold kPub at h; unfold kGive; omega) (zX3_give  (by first | assumption | omega | decide) (by first | assumption | omega | decide) (by first | assumption | omega | decide) (by first | assumption | omega | decide)) ?_
            intro x98 M98 J98 z98 f98 q98
            obtain ⟨e98_1, h98⟩ := q98
            replace e98_1 := e98_1.symm; subst e98_1
            refine Z_fr (fun frR => ?_)
            refine Z_iret dX3_quantify_101 rfl ?_
            refine ⟨i77_0, cI_mk hc frR (pI_fr pi95 (f98 5 (by decide)).1 (f98 6 (by decide)).1 (f98 10 (by decide)).1 (f98 11 (by decide)).1) (ordOK_fr hc.2.1 (((f98 4 (by decide)).1).trans (((f95 4 (by decide)).1).trans i77_6))), fun q => by have := q f (by omega) (by omega); omega⟩
        refine Z_aload_n (n := 32) dX3_quantify_31 rfl rfl ?_
        refine Z_aload_n (n := 33) dX3_quantify_32 rfl rfl ?_
        refine Z_aload_n (n := 34) dX3_quantify_33 rfl rfl ?_
        refine Z_getA (n := 37) dX3_quantify_34 rfl ffX3_29 (by first | rfl | exact nS0 (nA_at (by omega) (by omega))) (by first | rfl | exact nS0 (nA_at (by omega) (by omega))) ?_
        refine Z_iload_n (n := 38) dX3_quantify_37 rfl rfl ?_
        refine Z_iald (n := 39) dX3_quantify_38 rfl (by first | rfl | exact nS0 (nA_at (by omega) (by omega))) rfl (by first | decide | assumption) (by omega) (by omega) (fun r38 s38 => ?_)
        try simp only [uz_oo (show (12 : Nat) ≠ 0 by decide)] at r38 s38 ⊢
        refine Z_iload_n (n := 40) dX3_quantify_39 rfl rfl ?_
        refine Z_iconst (n := 41) dX3_quantify_40 rfl (by decide) ?_
        refine Z_callVi (n := 44) [_, _, _] _ dX3_quantify_41 rfl cwX3_145 rfl rfl (by first | rfl | exact nS0 (nA_at (by omega) (by omega))) (Nat.le_of_ble_eq_true rfl) (by refine ⟨?_, ?_, ?_, ?_⟩ <;> exact Nat.le_of_ble_eq_true rfl) (fun a h => by unfold kPub at h; unfold kStep; omega) (zX3_fixStep  (by omega) (by omega) (by omega) (by omega) (by exact (show pI (uz M 0 8 0) from pI_fr hc.1 (uz_o (by decide)) (uz_o (by decide)) (uz_o (by decide)) (uz_o (by decide)))) (by exact (show ordOK (uz M 0 8 0) from ordOK_fr hc.2.1 (uz_o (by decide))))) ?_
        intro x41 M41 J41 z41 f41 q41
        obtain ⟨e41_1, l41, u41, pi41⟩ := q41
        replace e41_1 := e41_1.symm; subst e41_1
        refine Z_callVi (n := 47) [_] _ dX3_quantify_44 rfl cwX3_149 rfl rfl (by first | rfl | exact nS0 (nA_at (by omega) (by omega))) (Nat.le_of_ble_eq_true rfl) (by refine ⟨?_, ?_, ?_, ?_⟩ <;> exact Nat.le_of_ble_eq_true rfl) (fun a h => by unfold kPub at h; unfold kKeep; omega) (zX3_keep  (by first | assumption | omega | decide) (by first | assumption | omega | decide)) ?_
        intro x44 M44 J44 z44 f44 q44
        obtain ⟨e44_1, h44⟩ := q44
        replace e44_1 := e44_1.symm; subst e44_1
        have e12 : M44 12 = M 12 := ((f44 12 (by decide)).1).trans (((f41 12 (by decide)).1).trans (uz_o (by decide)))
        have e4 : M44 4 = M 4 := ((f44 4 (by decide)).1).trans (((f41 4 (by decide)).1).trans (uz_o (by decide)))
        have pk44 : pI M44 := pI_fr pi41 (f44 5 (by decide)).1 (f44 6 (by decide)).1 (f44 10 (by decide)).1 (f44 11 (by decide)).1
        refine Z_istore (L' := [_, _, _, _, _, _, _]) (n := 49) dX3_quantify_47 rfl (by decide) rfl rfl ?_
        refine Z_iload (n := 51) dX3_quantify_49 rfl rfl ?_
        refine Z_iconst (n := 52) dX3_quantify_51 rfl (by decide) ?_
        refine Z_icmp_ne (n := 55) (t := 59) dX3_quantify_52 rfl (by decide) (fun c52 => ?_) (fun c52 => ?_)
        · refine Z_aload_n (n := 60) dX3_quantify_59 rfl rfl ?_
          refine Z_aload_n (n := 61) dX3_quantify_60 rfl rfl ?_
          refine Z_aload_n (n := 62) dX3_quantify_61 rfl rfl ?_
          refine Z_getA (n := 65) dX3_quantify_62 rfl ffX3_29 (by first | rfl | exact nS0 (nA_at (by omega) (by omega))) (by first | rfl | exact nS0 (nA_at (by omega) (by omega))) ?_
          refine Z_iload_n (n := 66) dX3_quantify_65 rfl rfl ?_
          refine Z_iald (n := 67) dX3_quantify_66 rfl (by first | rfl | exact nS0 (nA_at (by omega) (by omega))) rfl (by first | decide | assumption) (by omega) (by omega) (fun r66 s66 => ?_)
          try simp only [e12] at r66 s66 ⊢
          refine Z_iload_n (n := 68) dX3_quantify_67 rfl rfl ?_
          refine Z_iconst (n := 69) dX3_quantify_68 rfl (by decide) ?_
          refine Z_callVi (n := 72) [_, _, _] _ dX3_quantify_69 rfl cwX3_145 rfl rfl (by first | rfl | exact nS0 (nA_at (by omega) (by omega))) (Nat.le_of_ble_eq_true rfl) (by refine ⟨?_, ?_, ?_, ?_⟩ <;> exact Nat.le_of_ble_eq_true rfl) (fun a h => by unfold kPub at h; unfold kStep; omega) (zX3_fixStep  (by omega) (by omega) (by omega) (by omega) (by exact pk44) (by exact ordOK_fr hc.2.1 e4)) ?_
          intro x69 M69 J69 z69 f69 q69
          obtain ⟨e69_1, l69, u69, pi69⟩ := q69
          replace e69_1 := e69_1.symm; subst e69_1
          refine Z_callVi (n := 75) [_] _ dX3_quantify_72 rfl cwX3_149 rfl rfl (by first | rfl | exact nS0 (nA_at (by omega) (by omega))) (Nat.le_of_ble_eq_true rfl) (by refine ⟨?_, ?_, ?_, ?_⟩ <;> exact Nat.le_of_ble_eq_true rfl) (fun a h => by unfold kPub at h; unfold kKeep; omega) (zX3_keep  (by first | assumption | omega | decide) (by first | assumption | omega | decide)) ?_
          intro x72 M72 J72 z72 f72 q72
          obtain ⟨e72_1, h72⟩ := q72
          replace e72_1 := e72_1.symm; subst e72_1
          have e4b : M72 4 = M 4 := ((f72 4 (by decide)).1).trans (((f69 4 (by decide)).1).trans e4)
          have e12b : M72 12 = M 12 := ((f72 12 (by decide)).1).trans (((f69 12 (by decide)).1).trans e12)
          have pk72 : pI M72 := pI_fr pi69 (f72 5 (by decide)).1 (f72 6 (by decide)).1 (f72 10 (by decide)).1 (f72 11 (by decide)).1
          refine Z_istore (L' := [_, _, _, _, _, _, _]) (n := 77) dX3_quantify_75 rfl (by decide) rfl rfl ?_
          refine Z_loc (L' := [some _, some _, some _, some _, some _, some _, some _]) (lsub_same (lsub_same (lsub_same (lsub_same (lsub_same (lsub_same (lsub_same lsub_nil))))))) ?_
          exact ct77 _ _ _ _ (by first | rfl | assumption) (by first | assumption | omega | decide) (by first | assumption | omega | decide) (by first | assumption | omega | decide) (by first | assumption | omega | decide) (by first | assumption | exact pk72 | exact pk44) (by first | exact e4b | exact e4)
        · refine Z_iconst (n := 56) dX3_quantify_55 rfl (by decide) ?_
          refine Z_goto (t := 75) dX3_quantify_56 (by decide) ?_
          refine Z_istore (L' := [_, _, _, _, _, _, _]) (n := 77) dX3_quantify_75 rfl (by decide) rfl rfl ?_
          refine Z_loc (L' := [some _, some _, some _, some _, some _, some _, some _]) (lsub_same (lsub_same (lsub_same (lsub_same (lsub_same (lsub_same (lsub_same lsub_nil))))))) ?_
          exact ct77 _ _ _ _ (by first | rfl | assumption) (by first | assumption | omega | decide) (by first | assumption | omega | decide) (by first | assumption | omega | decide) (by first | assumption | omega | decide) (by first | assumption | exact pk72 | exact pk44) (by first | exact e4b | exact e4)
      · refine Z_bipush (n := 26) dX3_quantify_24 rfl (by decide) (by decide) ?_
        refine Z_iret dX3_quantify_26 rfl ?_
        exact ⟨rfl, hc, fun q => by have := q f (by omega) (by omega); omega⟩
    · refine Z_iconst (n := 16) dX3_quantify_15 rfl (by decide) ?_
      refine Z_iret dX3_quantify_16 rfl ?_
      exact ⟨rfl, hc, fun _ => rfl⟩
set_option maxRecDepth 20000 in
theorem zX3_compose {G : tl_G} {M : zM} {J : zJ} {h f v g : Int} (hc : cI M) : ZN G yX3_compose mX3_compose 13 kPub [vR 0, vI h, vI f, vI v, vI g] F1 M J (qI (fun x M' J' => J' = J ∧ cI M' ∧ (noH M → x = -1))) := by
  refine ZN_of (L := [_, _, _, _, _, _, _]) (by decide) rfl rfl (Nat.le_of_ble_eq_true rfl) rfl (fun hav => ?_)
  refine Z_iload_n (n := 1) dX3_compose_0 rfl rfl ?_
  refine Z_callSi (n := 4) [_] _ dX3_compose_1 rfl cwX3_123 rfl rfl (Nat.le_of_ble_eq_true rfl) (by refine ⟨?_, ?_, ?_, ?_⟩ <;> exact Nat.le_of_ble_eq_true rfl) (fun _ _ => trivial) (zX3_isHandle  ) ?_
  intro x1 M1 J1 z1 f1 q1
  obtain ⟨e1_1, e1_2, h1⟩ := q1
  replace e1_1 := e1_1.symm; subst e1_1
  replace e1_2 := e1_2.symm; subst e1_2
  refine Z_if_eq (n := 7) (t := 24) dX3_compose_4 rfl (by decide) (fun c4 => ?_) (fun c4 => ?_)
  · refine Z_iconst (n := 25) dX3_compose_24 rfl (by decide) ?_
    refine Z_iret dX3_compose_25 rfl ?_
    exact ⟨rfl, hc, fun _ => rfl⟩
  · refine Z_aload_n (n := 8) dX3_compose_7 rfl rfl ?_
    refine Z_iload_n (n := 9) dX3_compose_8 rfl rfl ?_
    refine Z_callVi (n := 12) [_] _ dX3_compose_9 rfl cwX3_139 rfl rfl (by first | rfl | exact nS0 (nA_at (by omega) (by omega))) (Nat.le_of_ble_eq_true rfl) (by refine ⟨?_, ?_, ?_, ?_⟩ <;> exact Nat.le_of_ble_eq_true rfl) (fun _ _ => trivial) (zX3_hasFunction  ) ?_
    intro x9 M9 J9 z9 f9 q9
    obtain ⟨e9_1, e9_2, h9⟩ := q9
    replace e9_1 := e9_1.symm; subst e9_1
    replace e9_2 := e9_2.symm; subst e9_2
    refine Z_if_eq (n := 15) (t := 24) dX3_compose_12 rfl (by decide) (fun c12 => ?_) (fun c12 => ?_)
    · refine Z_iconst (n := 25) dX3_compose_24 rfl (by decide) ?_
      refine Z_iret dX3_compose_25 rfl ?_
      exact ⟨rfl, hc, fun _ => rfl⟩
    · refine Z_aload_n (n := 16) dX3_compose_15 rfl rfl ?_
      refine Z_iload (n := 18) dX3_compose_16 rfl rfl ?_
      refine Z_callVi (n := 21) [_] _ dX3_compose_18 rfl cwX3_139 rfl rfl (by first | rfl | exact nS0 (nA_at (by omega) (by omega))) (Nat.le_of_ble_eq_true rfl) (by refine ⟨?_, ?_, ?_, ?_⟩ <;> exact Nat.le_of_ble_eq_true rfl) (fun _ _ => trivial) (zX3_hasFunction  ) ?_
      intro x18 M18 J18 z18 f18 q18
      obtain ⟨e18_1, e18_2, h18⟩ := q18
      replace e18_1 := e18_1.symm; subst e18_1
      replace e18_2 := e18_2.symm; subst e18_2
      refine Z_if_ne (n := 24) (t := 26) dX3_compose_21 rfl (by decide) (fun c21 => ?_) (fun c21 => ?_)
      · refine Z_iload_n (n := 27) dX3_compose_26 rfl rfl ?_
        refine Z_callSi (n := 30) [_] _ dX3_compose_27 rfl cwX3_70 rfl rfl (Nat.le_of_ble_eq_true rfl) (by refine ⟨?_, ?_, ?_, ?_⟩ <;> exact Nat.le_of_ble_eq_true rfl) (fun _ _ => trivial) (zX3_isVariable  ) ?_
        intro x27 M27 J27 z27 f27 q27
        obtain ⟨e27_1, e27_2, h27⟩ := q27
        replace e27_1 := e27_1.symm; subst e27_1
        replace e27_2 := e27_2.symm; subst e27_2
        refine Z_if_ne (n := 33) (t := 36) dX3_compose_30 rfl (by decide) (fun c30 => ?_) (fun c30 => ?_)
        · refine Z_aload_n (n := 37) dX3_compose_36 rfl rfl ?_
          refine Z_callVv (n := 40) [] _ dX3_compose_37 rfl cwX3_126 rfl rfl (by first | rfl | exact nS0 (nA_at (by omega) (by omega))) (Nat.le_of_ble_eq_true rfl) (by refine ⟨?_, ?_, ?_, ?_⟩ <;> exact Nat.le_of_ble_eq_true rfl) (fun _ h => h) (zX3_beginSteps  (by exact fun h => by unfold kPub at h; omega)) ?_
          intro M37 J37 f37 q37
          obtain ⟨e37_1, e37_2⟩ := q37
          replace e37_1 := e37_1.symm; subst e37_1
          replace e37_2 := e37_2.symm; subst e37_2
          have ct86 : ∀ (p q : Int) (M86 : zM) (J86 : zJ), (J86 = J) → (-1 ≤ p) → (p ≤ 251) → (-1 ≤ q) → (q ≤ 251) → (pI M86) → (M86 4 = M 4) → (M86 12 = M 12) → TZ G mX3_compose (tl_rm 13 0 0) 0 0 kPub M J 86 [some (vR 0), some (vI h), some (vI f), some (vI v), some (vI g), some (vI p), some (vI q)] [] F1 M86 J86 (ZM G (zPost G kPub F1 M J (qI (fun x M' J' => J' = J ∧ cI M' ∧ (noH M → x = -1)))) 0 0) := by
            intro p q M86 J86 i86_0 i86_1 i86_2 i86_3 i86_4 i86_5 i86_6 i86_7
            refine Z_aload_n (n := 87) dX3_compose_86 rfl rfl ?_
            refine Z_iload_n (n := 88) dX3_compose_87 rfl rfl ?_
            refine Z_aload_n (n := 89) dX3_compose_88 rfl rfl ?_
            refine Z_bipush (n := 91) dX3_compose_89 rfl (by decide) (by decide) ?_
            refine Z_aload_n (n := 92) dX3_compose_91 rfl rfl ?_
            refine Z_getA (n := 95) dX3_compose_92 rfl ffX3_29 (by first | rfl | exact nS0 (nA_at (by omega) (by omega))) (by first | rfl | exact nS0 (nA_at (by omega) (by omega))) ?_
            refine Z_iload (n := 97) dX3_compose_95 rfl rfl ?_
            refine Z_iald (n := 98) dX3_compose_97 rfl (by first | rfl | exact nS0 (nA_at (by omega) (by omega))) rfl (by first | decide | assumption) (by omega) (by omega) (fun r97 s97 => ?_)
            try simp only [i86_7] at r97 s97 ⊢
            refine Z_iload (n := 100) dX3_compose_98 rfl rfl ?_
            refine Z_iload (n := 102) dX3_compose_100 rfl rfl ?_
            refine Z_callVi (n := 105) [_, _, _, _] _ dX3_compose_102 rfl cwX3_142 rfl rfl (by first | rfl | exact nS0 (nA_at (by omega) (by omega))) (Nat.le_of_ble_eq_true rfl) (by refine ⟨?_, ?_, ?_, ?_⟩ <;> exact Nat.le_of_ble_eq_true rfl) (fun a h => by unfold kPub at h; unfold kStep; omega) (zX3_kindStep  (by omega) (by omega) (by omega) (by omega) (by omega) (by omega) (by omega) (by omega) (by assumption)) ?_
            intro x102 M102 J102 z102 f102 q102
            obtain ⟨e102_1, l102, u102, pi102, -⟩ := q102
            replace e102_1 := e102_1.symm; subst e102_1
            refine Z_callVi (n := 108) [_, _] _ dX3_compose_105 rfl cwX3_133 rfl rfl (by first | rfl | exact nS0 (nA_at (by omega) (by omega))) (Nat.le_of_ble_eq_true rfl) (by refine ⟨?_, ?_, ?_, ?_⟩ <;> exact Nat.le_of_ble_eq_true rfl) (fun a h => by unfold kPub at h; unfold kGive; omega) (zX3_give  (by first | assumption | omega | decide) (by first | assumption | omega | decide) (by first | assumption | omega | decide) (by first | assumption | omega | decide)) ?_
            intro x105 M105 J105 z105 f105 q105
            obtain ⟨e105_1, h105⟩ := q105
            replace e105_1 := e105_1.symm; subst e105_1
            refine Z_fr (fun frR => ?_)
            refine Z_iret dX3_compose_108 rfl ?_
            refine ⟨i86_0, cI_mk hc frR (pI_fr pi102 (f105 5 (by decide)).1 (f105 6 (by decide)).1 (f105 10 (by decide)).1 (f105 11 (by decide)).1) (ordOK_fr hc.2.1 (((f105 4 (by decide)).1).trans (((f102 4 (by decide)).1).trans i86_6))), fun q => by have := q f (by omega) (by omega); omega⟩
          refine Z_aload_n (n := 41) dX3_compose_40 rfl rfl ?_
          refine Z_aload_n (n := 42) dX3_compose_41 rfl rfl ?_
          refine Z_aload_n (n := 43) dX3_compose_42 rfl rfl ?_
          refine Z_getA (n := 46) dX3_compose_43 rfl ffX3_29 (by first | rfl | exact nS0 (nA_at (by omega) (by omega))) (by first | rfl | exact nS0 (nA_at (by omega) (by omega))) ?_
          refine Z_iload_n (n := 47) dX3_compose_46 rfl rfl ?_
          refine Z_iald (n := 48) dX3_compose_47 rfl (by first | rfl | exact nS0 (nA_at (by omega) (by omega))) rfl (by first | decide | assumption) (by omega) (by omega) (fun r47 s47 => ?_)
          try simp only [uz_oo (show (12 : Nat) ≠ 0 by decide)] at r47 s47 ⊢
          refine Z_iload_n (n := 49) dX3_compose_48 rfl rfl ?_
          refine Z_iconst (n := 50) dX3_compose_49 rfl (by decide) ?_
          refine Z_callVi (n := 53) [_, _, _] _ dX3_compose_50 rfl cwX3_145 rfl rfl (by first | rfl | exact nS0 (nA_at (by omega) (by omega))) (Nat.le_of_ble_eq_true rfl) (by refine ⟨?_, ?_, ?_, ?_⟩ <;> exact Nat.le_of_ble_eq_true rfl) (fun a h => by unfold kPub at h; unfold kStep; omega) (zX3_fixStep  (by omega) (by omega) (by omega) (by omega) (by exact (show pI (uz M 0 8 0) from pI_fr hc.1 (uz_o (by decide)) (uz_o (by decide)) (uz_o (by decide)) (uz_o (by decide)))) (by exact (show ordOK (uz M 0 8 0) from ordOK_fr hc.2.1 (uz_o (by decide))))) ?_
          intro x50 M50 J50 z50 f50 q50
          obtain ⟨e50_1, l50, u50, pi50⟩ := q50
          replace e50_1 := e50_1.symm; subst e50_1
          refine Z_callVi (n := 56) [_] _ dX3_compose_53 rfl cwX3_149 rfl rfl (by first | rfl | exact nS0 (nA_at (by omega) (by omega))) (Nat.le_of_ble_eq_true rfl) (by refine ⟨?_, ?_, ?_, ?_⟩ <;> exact Nat.le_of_ble_eq_true rfl) (fun a h => by unfold kPub at h; unfold kKeep; omega) (zX3_keep  (by first | assumption | omega | decide) (by first | assumption | omega | decide)) ?_
          intro x53 M53 J53 z53 f53 q53
          obtain ⟨e53_1, h53⟩ := q53
          replace e53_1 := e53_1.symm; subst e53_1
          have e12 : M53 12 = M 12 := ((f53 12 (by decide)).1).trans (((f50 12 (by decide)).1).trans (uz_o (by decide)))
          have e4 : M53 4 = M 4 := ((f53 4 (by decide)).1).trans (((f50 4 (by decide)).1).trans (uz_o (by decide)))
          have pk53 : pI M53 := pI_fr pi50 (f53 5 (by decide)).1 (f53 6 (by decide)).1 (f53 10 (by decide)).1 (f53 11 (by decide)).1
          refine Z_istore (L' := [_, _, _, _, _, _, _]) (n := 58) dX3_compose_56 rfl (by decide) rfl rfl ?_
          refine Z_iload (n := 60) dX3_compose_58 rfl rfl ?_
          refine Z_iconst (n := 61) dX3_compose_60 rfl (by decide) ?_
          refine Z_icmp_ne (n := 64) (t := 68) dX3_compose_61 rfl (by decide) (fun c61 => ?_) (fun c61 => ?_)
          · refine Z_aload_n (n := 69) dX3_compose_68 rfl rfl ?_
            refine Z_aload_n (n := 70) dX3_compose_69 rfl rfl ?_
            refine Z_aload_n (n := 71) dX3_compose_70 rfl rfl ?_
            refine Z_getA (n := 74) dX3_compose_71 rfl ffX3_29 (by first | rfl | exact nS0 (nA_at (by omega) (by omega))) (by first | rfl | exact nS0 (nA_at (by omega) (by omega))) ?_
            refine Z_iload_n (n := 75) dX3_compose_74 rfl rfl ?_
            refine Z_iald (n := 76) dX3_compose_75 rfl (by first | rfl | exact nS0 (nA_at (by omega) (by omega))) rfl (by first | decide | assumption) (by omega) (by omega) (fun r75 s75 => ?_)
            try simp only [e12] at r75 s75 ⊢
            refine Z_iload_n (n := 77) dX3_compose_76 rfl rfl ?_
            refine Z_iconst (n := 78) dX3_compose_77 rfl (by decide) ?_
            refine Z_callVi (n := 81) [_, _, _] _ dX3_compose_78 rfl cwX3_145 rfl rfl (by first | rfl | exact nS0 (nA_at (by omega) (by omega))) (Nat.le_of_ble_eq_true rfl) (by refine ⟨?_, ?_, ?_, ?_⟩ <;> exact Nat.le_of_ble_eq_true rfl) (fun a h => by unfold kPub at h; unfold kStep; omega) (zX3_fixStep  (by omega) (by omega) (by omega) (by omega) (by exact pk53) (by exact ordOK_fr hc.2.1 e4)) ?_
            intro x78 M78 J78 z78 f78 q78
            obtain ⟨e78_1, l78, u78, pi78⟩ := q78
            replace e78_1 := e78_1.symm; subst e78_1
            refine Z_callVi (n := 84) [_] _ dX3_compose_81 rfl cwX3_149 rfl rfl (by first | rfl | exact nS0 (nA_at (by omega) (by omega))) (Nat.le_of_ble_eq_true rfl) (by refine ⟨?_, ?_, ?_, ?_⟩ <;> exact Nat.le_of_ble_eq_true rfl) (fun a h => by unfold kPub at h; unfold kKeep; omega) (zX3_keep  (by first | assumption | omega | decide) (by first | assumption | omega | decide)) ?_
            intro x81 M81 J81 z81 f81 q81
            obtain ⟨e81_1, h81⟩ := q81
            replace e81_1 := e81_1.symm; subst e81_1
            have e4b : M81 4 = M 4 := ((f81 4 (by decide)).1).trans (((f78 4 (by decide)).1).trans e4)
            have e12b : M81 12 = M 12 := ((f81 12 (by decide)).1).trans (((f78 12 (by decide)).1).trans e12)
            have pk81 : pI M81 := pI_fr pi78 (f81 5 (by decide)).1 (f81 6 (by decide)).1 (f81 10 (by decide)).1 (f81 11 (by decide)).1
            refine Z_istore (L' := [_, _, _, _, _, _, _]) (n := 86) dX3_compose_84 rfl (by decide) rfl rfl ?_
            refine Z_loc (L' := [some _, some _, some _, some _, some _, some _, some _]) (lsub_same (lsub_same (lsub_same (lsub_same (lsub_same (lsub_same (lsub_same lsub_nil))))))) ?_
            exact ct86 _ _ _ _ (by first | rfl | assumption) (by first | assumption | omega | decide) (by first | assumption | omega | decide) (by first | assumption | omega | decide) (by first | assumption | omega | decide) (by first | assumption | exact pk81 | exact pk53) (by first | exact e4b | exact e4) (by first | exact e12b | exact e12)
          · refine Z_iconst (n := 65) dX3_compose_64 rfl (by decide) ?_
            refine Z_goto (t := 84) dX3_compose_65 (by decide) ?_
            refine Z_istore (L' := [_, _, _, _, _, _, _]) (n := 86) dX3_compose_84 rfl (by decide) rfl rfl ?_
            refine Z_loc (L' := [some _, some _, some _, some _, some _, some _, some _]) (lsub_same (lsub_same (lsub_same (lsub_same (lsub_same (lsub_same (lsub_same lsub_nil))))))) ?_
            exact ct86 _ _ _ _ (by first | rfl | assumption) (by first | assumption | omega | decide) (by first | assumption | omega | decide) (by first | assumption | omega | decide) (by first | assumption | omega | decide) (by first | assumption | exact pk81 | exact pk53) (by first | exact e4b | exact e4) (by first | exact e12b | exact e12)
        · refine Z_bipush (n := 35) dX3_compose_33 rfl (by decide) (by decide) ?_
          refine Z_iret dX3_compose_35 rfl ?_
          exact ⟨rfl, hc, fun q => by have := q f (by omega) (by omega); omega⟩
      · refine Z_iconst (n := 25) dX3_compose_24 rfl (by decide) ?_
        refine Z_iret dX3_compose_25 rfl ?_
        exact ⟨rfl, hc, fun _ => rfl⟩
set_option maxRecDepth 20000 in
theorem zX3_share {G : tl_G} {M : zM} {J : zJ} {h f : Int} (hc : cI M) : ZN G yX3_share mX3_share 2 kPub [vR 0, vI h, vI f] F1 M J (qI (fun x M' J' => J' = J ∧ cI M' ∧ (noH M → x = -1))) := by
  refine ZN_of (L := [_, _, _]) (by decide) rfl rfl (Nat.le_of_ble_eq_true rfl) rfl (fun hav => ?_)
  refine Z_iload_n (n := 1) dX3_share_0 rfl rfl ?_
  refine Z_callSi (n := 4) [_] _ dX3_share_1 rfl cwX3_123 rfl rfl (Nat.le_of_ble_eq_true rfl) (by refine ⟨?_, ?_, ?_, ?_⟩ <;> exact Nat.le_of_ble_eq_true rfl) (fun _ _ => trivial) (zX3_isHandle  ) ?_
  intro x1 M1 J1 z1 f1 q1
  obtain ⟨e1_1, e1_2, h1⟩ := q1
  replace e1_1 := e1_1.symm; subst e1_1
  replace e1_2 := e1_2.symm; subst e1_2
  refine Z_if_eq (n := 7) (t := 15) dX3_share_4 rfl (by decide) (fun c4 => ?_) (fun c4 => ?_)
  · refine Z_iconst (n := 16) dX3_share_15 rfl (by decide) ?_
    refine Z_iret dX3_share_16 rfl ?_
    exact ⟨rfl, hc, fun _ => rfl⟩
  · refine Z_aload_n (n := 8) dX3_share_7 rfl rfl ?_
    refine Z_iload_n (n := 9) dX3_share_8 rfl rfl ?_
    refine Z_callVi (n := 12) [_] _ dX3_share_9 rfl cwX3_139 rfl rfl (by first | rfl | exact nS0 (nA_at (by omega) (by omega))) (Nat.le_of_ble_eq_true rfl) (by refine ⟨?_, ?_, ?_, ?_⟩ <;> exact Nat.le_of_ble_eq_true rfl) (fun _ _ => trivial) (zX3_hasFunction  ) ?_
    intro x9 M9 J9 z9 f9 q9
    obtain ⟨e9_1, e9_2, h9⟩ := q9
    replace e9_1 := e9_1.symm; subst e9_1
    replace e9_2 := e9_2.symm; subst e9_2
    refine Z_if_ne (n := 15) (t := 17) dX3_share_12 rfl (by decide) (fun c12 => ?_) (fun c12 => ?_)
    · refine Z_aload_n (n := 18) dX3_share_17 rfl rfl ?_
      refine Z_getA (n := 21) dX3_share_18 rfl ffX3_29 (by first | rfl | exact nS0 (nA_at (by omega) (by omega))) (by first | rfl | exact nS0 (nA_at (by omega) (by omega))) ?_
      refine Z_iload_n (n := 22) dX3_share_21 rfl rfl ?_
      refine Z_aload_n (n := 23) dX3_share_22 rfl rfl ?_
      refine Z_getA (n := 26) dX3_share_23 rfl ffX3_29 (by first | rfl | exact nS0 (nA_at (by omega) (by omega))) (by first | rfl | exact nS0 (nA_at (by omega) (by omega))) ?_
      refine Z_iload_n (n := 27) dX3_share_26 rfl rfl ?_
      refine Z_iald (n := 28) dX3_share_27 rfl (by first | rfl | exact nS0 (nA_at (by omega) (by omega))) rfl (by first | decide | assumption) (by omega) (by omega) (fun r27 s27 => ?_)
      refine Z_iast (n := 29) dX3_share_28 rfl (by first | rfl | exact nS0 (nA_at (by omega) (by omega))) rfl (by first | decide | assumption) (by omega) (by omega) (by first | assumption | omega | decide) (by first | assumption | omega | decide) (by decide) ?_
      refine Z_iconst (n := 30) dX3_share_29 rfl (by decide) ?_
      refine Z_fr (fun frR => ?_)
      refine Z_iret dX3_share_30 rfl ?_
      exact ⟨rfl, cI_mk hc frR (pI_fr hc.1 (uz_o (by decide)) (uz_o (by decide)) (uz_o (by decide)) (uz_o (by decide))) (ordOK_fr hc.2.1 (uz_o (by decide))), fun q => by have := q f (by omega) (by omega); omega⟩
    · refine Z_iconst (n := 16) dX3_share_15 rfl (by decide) ?_
      refine Z_iret dX3_share_16 rfl ?_
      exact ⟨rfl, hc, fun _ => rfl⟩
set_option maxRecDepth 20000 in
theorem zX3_drop {G : tl_G} {M : zM} {J : zJ} {h : Int} (hc : cI M) : ZN G yX3_drop mX3_drop 1 kPub [vR 0, vI h] F1 M J (qI (fun x M' J' => J' = J ∧ cI M' ∧ (((h < 0 ∨ 12 ≤ h) ∧ x = -1) ∨ (0 ≤ h ∧ h < 12 ∧ ((M 12 h = -1 ∧ x = 0) ∨ (¬ M 12 h = -1 ∧ x = 1)))))) := by
  refine ZN_of (L := [_, _, _]) (by decide) rfl rfl (Nat.le_of_ble_eq_true rfl) rfl (fun hav => ?_)
  refine Z_iload_n (n := 1) dX3_drop_0 rfl rfl ?_
  refine Z_callSi (n := 4) [_] _ dX3_drop_1 rfl cwX3_123 rfl rfl (Nat.le_of_ble_eq_true rfl) (by refine ⟨?_, ?_, ?_, ?_⟩ <;> exact Nat.le_of_ble_eq_true rfl) (fun _ _ => trivial) (zX3_isHandle  ) ?_
  intro x1 M1 J1 z1 f1 q1
  obtain ⟨e1_1, e1_2, h1⟩ := q1
  replace e1_1 := e1_1.symm; subst e1_1
  replace e1_2 := e1_2.symm; subst e1_2
  refine Z_if_ne (n := 7) (t := 9) dX3_drop_4 rfl (by decide) (fun c4 => ?_) (fun c4 => ?_)
  · refine Z_aload_n (n := 10) dX3_drop_9 rfl rfl ?_
    refine Z_getA (n := 13) dX3_drop_10 rfl ffX3_29 (by first | rfl | exact nS0 (nA_at (by omega) (by omega))) (by first | rfl | exact nS0 (nA_at (by omega) (by omega))) ?_
    refine Z_iload_n (n := 14) dX3_drop_13 rfl rfl ?_
    refine Z_iald (n := 15) dX3_drop_14 rfl (by first | rfl | exact nS0 (nA_at (by omega) (by omega))) rfl (by first | decide | assumption) (by omega) (by omega) (fun r14 s14 => ?_)
    refine Z_iconst (n := 16) dX3_drop_15 rfl (by decide) ?_
    refine Z_icmp_ne (n := 19) (t := 23) dX3_drop_16 rfl (by decide) (fun c16 => ?_) (fun c16 => ?_)
    · refine Z_iconst (n := 24) dX3_drop_23 rfl (by decide) ?_
      refine Z_istore_n (L' := [_, _, _]) (n := 25) dX3_drop_24 rfl (by decide) rfl rfl ?_
      refine Z_aload_n (n := 26) dX3_drop_25 rfl rfl ?_
      refine Z_getA (n := 29) dX3_drop_26 rfl ffX3_29 (by first | rfl | exact nS0 (nA_at (by omega) (by omega))) (by first | rfl | exact nS0 (nA_at (by omega) (by omega))) ?_
      refine Z_iload_n (n := 30) dX3_drop_29 rfl rfl ?_
      refine Z_iconst (n := 31) dX3_drop_30 rfl (by decide) ?_
      refine Z_iast (n := 32) dX3_drop_31 rfl (by first | rfl | exact nS0 (nA_at (by omega) (by omega))) rfl (by first | decide | assumption) (by omega) (by omega) (by first | assumption | omega | decide) (by first | assumption | omega | decide) (by decide) ?_
      refine Z_iload_n (n := 33) dX3_drop_32 rfl rfl ?_
      refine Z_fr (fun frR => ?_)
      refine Z_iret dX3_drop_33 rfl ?_
      exact ⟨rfl, cI_mk hc frR (pI_fr hc.1 (uz_o (by decide)) (uz_o (by decide)) (uz_o (by decide)) (uz_o (by decide))) (ordOK_fr hc.2.1 (uz_o (by decide))), by omega⟩
    · refine Z_iconst (n := 20) dX3_drop_19 rfl (by decide) ?_
      refine Z_goto (t := 24) dX3_drop_20 (by decide) ?_
      refine Z_istore_n (L' := [_, _, _]) (n := 25) dX3_drop_24 rfl (by decide) rfl rfl ?_
      refine Z_aload_n (n := 26) dX3_drop_25 rfl rfl ?_
      refine Z_getA (n := 29) dX3_drop_26 rfl ffX3_29 (by first | rfl | exact nS0 (nA_at (by omega) (by omega))) (by first | rfl | exact nS0 (nA_at (by omega) (by omega))) ?_
      refine Z_iload_n (n := 30) dX3_drop_29 rfl rfl ?_
      refine Z_iconst (n := 31) dX3_drop_30 rfl (by decide) ?_
      refine Z_iast (n := 32) dX3_drop_31 rfl (by first | rfl | exact nS0 (nA_at (by omega) (by omega))) rfl (by first | decide | assumption) (by omega) (by omega) (by first | assumption | omega | decide) (by first | assumption | omega | decide) (by decide) ?_
      refine Z_iload_n (n := 33) dX3_drop_32 rfl rfl ?_
      refine Z_fr (fun frR => ?_)
      refine Z_iret dX3_drop_33 rfl ?_
      exact ⟨rfl, cI_mk hc frR (pI_fr hc.1 (uz_o (by decide)) (uz_o (by decide)) (uz_o (by decide)) (uz_o (by decide))) (ordOK_fr hc.2.1 (uz_o (by decide))), by omega⟩
  · refine Z_iconst (n := 8) dX3_drop_7 rfl (by decide) ?_
    refine Z_iret dX3_drop_8 rfl ?_
    exact ⟨rfl, hc, by omega⟩
set_option maxRecDepth 20000 in
theorem zX3_nodes {G : tl_G} {M : zM} {J : zJ} {f : Int} (hc : cI M) : ZN G yX3_nodes mX3_nodes 11 kPub [vR 0, vI f] F1 M J (qI (fun x M' J' => J' = J ∧ cI M' ∧ (noH M → x = -1))) := by
  refine ZN_of (L := [_, _]) (by decide) rfl rfl (Nat.le_of_ble_eq_true rfl) rfl (fun hav => ?_)
  refine Z_aload_n (n := 1) dX3_nodes_0 rfl rfl ?_
  refine Z_iload_n (n := 2) dX3_nodes_1 rfl rfl ?_
  refine Z_callVi (n := 5) [_] _ dX3_nodes_2 rfl cwX3_139 rfl rfl (by first | rfl | exact nS0 (nA_at (by omega) (by omega))) (Nat.le_of_ble_eq_true rfl) (by refine ⟨?_, ?_, ?_, ?_⟩ <;> exact Nat.le_of_ble_eq_true rfl) (fun _ _ => trivial) (zX3_hasFunction  ) ?_
  intro x2 M2 J2 z2 f2 q2
  obtain ⟨e2_1, e2_2, h2⟩ := q2
  replace e2_1 := e2_1.symm; subst e2_1
  replace e2_2 := e2_2.symm; subst e2_2
  refine Z_if_ne (n := 8) (t := 10) dX3_nodes_5 rfl (by decide) (fun c5 => ?_) (fun c5 => ?_)
  · refine Z_aload_n (n := 11) dX3_nodes_10 rfl rfl ?_
    refine Z_getO (n := 14) dX3_nodes_11 rfl ffX3_25 (by first | rfl | exact nS0 (nA_at (by omega) (by omega))) (by first | rfl | exact nS0 (nA_at (by omega) (by omega))) ?_
    refine Z_aload_n (n := 15) dX3_nodes_14 rfl rfl ?_
    refine Z_getA (n := 18) dX3_nodes_15 rfl ffX3_29 (by first | rfl | exact nS0 (nA_at (by omega) (by omega))) (by first | rfl | exact nS0 (nA_at (by omega) (by omega))) ?_
    refine Z_iload_n (n := 19) dX3_nodes_18 rfl rfl ?_
    refine Z_iald (n := 20) dX3_nodes_19 rfl (by first | rfl | exact nS0 (nA_at (by omega) (by omega))) rfl (by first | decide | assumption) (by omega) (by omega) (fun r19 s19 => ?_)
    refine Z_callVi (n := 23) [_] _ dX3_nodes_20 rfl cwX3_152 rfl rfl (by first | rfl | exact nS0 (nA_at (by omega) (by omega))) (Nat.le_of_ble_eq_true rfl) (by refine ⟨?_, ?_, ?_, ?_⟩ <;> exact Nat.le_of_ble_eq_true rfl) (fun a h => by unfold kPub at h; unfold kMarks; omega) (zX2_nodeCount  (by first | assumption | omega | decide) (by first | assumption | omega | decide)) ?_
    intro x20 M20 J20 z20 f20 q20
    obtain ⟨e20_1, h20⟩ := q20
    replace e20_1 := e20_1.symm; subst e20_1
    refine Z_fr (fun frR => ?_)
    refine Z_iret dX3_nodes_23 rfl ?_
    exact ⟨rfl, cI_mk hc frR (pI_fr hc.1 (f20 5 (by decide)).1 (f20 6 (by decide)).1 (f20 10 (by decide)).1 (f20 11 (by decide)).1) (ordOK_fr hc.2.1 (f20 4 (by decide)).1), fun q => by have := q f (by omega) (by omega); omega⟩
  · refine Z_iconst (n := 9) dX3_nodes_8 rfl (by decide) ?_
    refine Z_iret dX3_nodes_9 rfl ?_
    exact ⟨rfl, hc, fun _ => rfl⟩
set_option maxRecDepth 20000 in
theorem zX3_common {G : tl_G} {M : zM} {J : zJ} {f g : Int} (hc : cI M) : ZN G yX3_common mX3_common 11 kPub [vR 0, vI f, vI g] F1 M J (qI (fun x M' J' => J' = J ∧ cI M' ∧ (noH M → x = -1))) := by
  refine ZN_of (L := [_, _, _]) (by decide) rfl rfl (Nat.le_of_ble_eq_true rfl) rfl (fun hav => ?_)
  refine Z_aload_n (n := 1) dX3_common_0 rfl rfl ?_
  refine Z_iload_n (n := 2) dX3_common_1 rfl rfl ?_
  refine Z_callVi (n := 5) [_] _ dX3_common_2 rfl cwX3_139 rfl rfl (by first | rfl | exact nS0 (nA_at (by omega) (by omega))) (Nat.le_of_ble_eq_true rfl) (by refine ⟨?_, ?_, ?_, ?_⟩ <;> exact Nat.le_of_ble_eq_true rfl) (fun _ _ => trivial) (zX3_hasFunction  ) ?_
  intro x2 M2 J2 z2 f2 q2
  obtain ⟨e2_1, e2_2, h2⟩ := q2
  replace e2_1 := e2_1.symm; subst e2_1
  replace e2_2 := e2_2.symm; subst e2_2
  refine Z_if_eq (n := 8) (t := 16) dX3_common_5 rfl (by decide) (fun c5 => ?_) (fun c5 => ?_)
  · refine Z_iconst (n := 17) dX3_common_16 rfl (by decide) ?_
    refine Z_iret dX3_common_17 rfl ?_
    exact ⟨rfl, hc, fun _ => rfl⟩
  · refine Z_aload_n (n := 9) dX3_common_8 rfl rfl ?_
    refine Z_iload_n (n := 10) dX3_common_9 rfl rfl ?_
    refine Z_callVi (n := 13) [_] _ dX3_common_10 rfl cwX3_139 rfl rfl (by first | rfl | exact nS0 (nA_at (by omega) (by omega))) (Nat.le_of_ble_eq_true rfl) (by refine ⟨?_, ?_, ?_, ?_⟩ <;> exact Nat.le_of_ble_eq_true rfl) (fun _ _ => trivial) (zX3_hasFunction  ) ?_
    intro x10 M10 J10 z10 f10 q10
    obtain ⟨e10_1, e10_2, h10⟩ := q10
    replace e10_1 := e10_1.symm; subst e10_1
    replace e10_2 := e10_2.symm; subst e10_2
    refine Z_if_ne (n := 16) (t := 18) dX3_common_13 rfl (by decide) (fun c13 => ?_) (fun c13 => ?_)
    · refine Z_aload_n (n := 19) dX3_common_18 rfl rfl ?_
      refine Z_getO (n := 22) dX3_common_19 rfl ffX3_25 (by first | rfl | exact nS0 (nA_at (by omega) (by omega))) (by first | rfl | exact nS0 (nA_at (by omega) (by omega))) ?_
      refine Z_aload_n (n := 23) dX3_common_22 rfl rfl ?_
      refine Z_getA (n := 26) dX3_common_23 rfl ffX3_29 (by first | rfl | exact nS0 (nA_at (by omega) (by omega))) (by first | rfl | exact nS0 (nA_at (by omega) (by omega))) ?_
      refine Z_iload_n (n := 27) dX3_common_26 rfl rfl ?_
      refine Z_iald (n := 28) dX3_common_27 rfl (by first | rfl | exact nS0 (nA_at (by omega) (by omega))) rfl (by first | decide | assumption) (by omega) (by omega) (fun r27 s27 => ?_)
      refine Z_aload_n (n := 29) dX3_common_28 rfl rfl ?_
      refine Z_getA (n := 32) dX3_common_29 rfl ffX3_29 (by first | rfl | exact nS0 (nA_at (by omega) (by omega))) (by first | rfl | exact nS0 (nA_at (by omega) (by omega))) ?_
      refine Z_iload_n (n := 33) dX3_common_32 rfl rfl ?_
      refine Z_iald (n := 34) dX3_common_33 rfl (by first | rfl | exact nS0 (nA_at (by omega) (by omega))) rfl (by first | decide | assumption) (by omega) (by omega) (fun r33 s33 => ?_)
      refine Z_callVi (n := 37) [_, _] _ dX3_common_34 rfl cwX3_161 rfl rfl (by first | rfl | exact nS0 (nA_at (by omega) (by omega))) (Nat.le_of_ble_eq_true rfl) (by refine ⟨?_, ?_, ?_, ?_⟩ <;> exact Nat.le_of_ble_eq_true rfl) (fun a h => by unfold kPub at h; unfold kMarks; omega) (zX2_commonCount  (by first | assumption | omega | decide) (by first | assumption | omega | decide) (by first | assumption | omega | decide) (by first | assumption | omega | decide)) ?_
      intro x34 M34 J34 z34 f34 q34
      obtain ⟨e34_1, h34⟩ := q34
      replace e34_1 := e34_1.symm; subst e34_1
      refine Z_fr (fun frR => ?_)
      refine Z_iret dX3_common_37 rfl ?_
      exact ⟨rfl, cI_mk hc frR (pI_fr hc.1 (f34 5 (by decide)).1 (f34 6 (by decide)).1 (f34 10 (by decide)).1 (f34 11 (by decide)).1) (ordOK_fr hc.2.1 (f34 4 (by decide)).1), fun q => by have := q f (by omega) (by omega); omega⟩
    · refine Z_iconst (n := 17) dX3_common_16 rfl (by decide) ?_
      refine Z_iret dX3_common_17 rfl ?_
      exact ⟨rfl, hc, fun _ => rfl⟩
set_option maxRecDepth 20000 in
theorem zX3_level {G : tl_G} {M : zM} {J : zJ} {f v : Int} (hc : cI M) : ZN G yX3_level mX3_level 11 kPub [vR 0, vI f, vI v] F1 M J (qI (fun x M' J' => J' = J ∧ cI M' ∧ (noH M → x = -1))) := by
  refine ZN_of (L := [_, _, _]) (by decide) rfl rfl (Nat.le_of_ble_eq_true rfl) rfl (fun hav => ?_)
  refine Z_aload_n (n := 1) dX3_level_0 rfl rfl ?_
  refine Z_iload_n (n := 2) dX3_level_1 rfl rfl ?_
  refine Z_callVi (n := 5) [_] _ dX3_level_2 rfl cwX3_139 rfl rfl (by first | rfl | exact nS0 (nA_at (by omega) (by omega))) (Nat.le_of_ble_eq_true rfl) (by refine ⟨?_, ?_, ?_, ?_⟩ <;> exact Nat.le_of_ble_eq_true rfl) (fun _ _ => trivial) (zX3_hasFunction  ) ?_
  intro x2 M2 J2 z2 f2 q2
  obtain ⟨e2_1, e2_2, h2⟩ := q2
  replace e2_1 := e2_1.symm; subst e2_1
  replace e2_2 := e2_2.symm; subst e2_2
  refine Z_if_ne (n := 8) (t := 10) dX3_level_5 rfl (by decide) (fun c5 => ?_) (fun c5 => ?_)
  · refine Z_iload_n (n := 11) dX3_level_10 rfl rfl ?_
    refine Z_callSi (n := 14) [_] _ dX3_level_11 rfl cwX3_70 rfl rfl (Nat.le_of_ble_eq_true rfl) (by refine ⟨?_, ?_, ?_, ?_⟩ <;> exact Nat.le_of_ble_eq_true rfl) (fun _ _ => trivial) (zX3_isVariable  ) ?_
    intro x11 M11 J11 z11 f11 q11
    obtain ⟨e11_1, e11_2, h11⟩ := q11
    replace e11_1 := e11_1.symm; subst e11_1
    replace e11_2 := e11_2.symm; subst e11_2
    refine Z_if_ne (n := 17) (t := 20) dX3_level_14 rfl (by decide) (fun c14 => ?_) (fun c14 => ?_)
    · refine Z_aload_n (n := 21) dX3_level_20 rfl rfl ?_
      refine Z_getO (n := 24) dX3_level_21 rfl ffX3_25 (by first | rfl | exact nS0 (nA_at (by omega) (by omega))) (by first | rfl | exact nS0 (nA_at (by omega) (by omega))) ?_
      refine Z_aload_n (n := 25) dX3_level_24 rfl rfl ?_
      refine Z_getA (n := 28) dX3_level_25 rfl ffX3_29 (by first | rfl | exact nS0 (nA_at (by omega) (by omega))) (by first | rfl | exact nS0 (nA_at (by omega) (by omega))) ?_
      refine Z_iload_n (n := 29) dX3_level_28 rfl rfl ?_
      refine Z_iald (n := 30) dX3_level_29 rfl (by first | rfl | exact nS0 (nA_at (by omega) (by omega))) rfl (by first | decide | assumption) (by omega) (by omega) (fun r29 s29 => ?_)
      refine Z_aload_n (n := 31) dX3_level_30 rfl rfl ?_
      refine Z_getO (n := 34) dX3_level_31 rfl ffX3_18 (by first | rfl | exact nS0 (nA_at (by omega) (by omega))) (by first | rfl | exact nS0 (nA_at (by omega) (by omega))) ?_
      refine Z_iload_n (n := 35) dX3_level_34 rfl rfl ?_
      refine Z_callVi (n := 38) [_] _ dX3_level_35 rfl cwX3_174 rfl rfl (by first | rfl | exact nS0 (nA_at (by omega) (by omega))) (Nat.le_of_ble_eq_true rfl) (by refine ⟨?_, ?_, ?_, ?_⟩ <;> exact Nat.le_of_ble_eq_true rfl) (fun _ _ => trivial) (zX1_placeOf  (by first | assumption | omega | decide) (by first | assumption | omega | decide)) ?_
      intro x35 M35 J35 z35 f35 q35
      obtain ⟨e35_1, e35_2, h35⟩ := q35
      replace e35_1 := e35_1.symm; subst e35_1
      replace e35_2 := e35_2.symm; subst e35_2
      refine Z_callVi (n := 41) [_, _] _ dX3_level_38 rfl cwX3_168 rfl rfl (by first | rfl | exact nS0 (nA_at (by omega) (by omega))) (Nat.le_of_ble_eq_true rfl) (by refine ⟨?_, ?_, ?_, ?_⟩ <;> exact Nat.le_of_ble_eq_true rfl) (fun a h => by unfold kPub at h; unfold kMarks; omega) (zX2_nodeCountAt  (by first | assumption | omega | decide) (by first | assumption | omega | decide)) ?_
      intro x38 M38 J38 z38 f38 q38
      obtain ⟨e38_1, h38⟩ := q38
      replace e38_1 := e38_1.symm; subst e38_1
      refine Z_fr (fun frR => ?_)
      refine Z_iret dX3_level_41 rfl ?_
      exact ⟨rfl, cI_mk hc frR (pI_fr hc.1 (f38 5 (by decide)).1 (f38 6 (by decide)).1 (f38 10 (by decide)).1 (f38 11 (by decide)).1) (ordOK_fr hc.2.1 (f38 4 (by decide)).1), fun q => by have := q f (by omega) (by omega); omega⟩
    · refine Z_bipush (n := 19) dX3_level_17 rfl (by decide) (by decide) ?_
      refine Z_iret dX3_level_19 rfl ?_
      exact ⟨rfl, hc, fun q => by have := q f (by omega) (by omega); omega⟩
  · refine Z_iconst (n := 9) dX3_level_8 rfl (by decide) ?_
    refine Z_iret dX3_level_9 rfl ?_
    exact ⟨rfl, hc, fun _ => rfl⟩
set_option maxRecDepth 20000 in
theorem zX3_value {G : tl_G} {M : zM} {J : zJ} {f a : Int}  : ZN G yX3_value mX3_value 2 kAll [vR 0, vI f, vI a] F1 M J (qI (fun x M' J' => M' = M ∧ J' = J ∧ (noH M → x = -1))) := by
  refine ZN_of (L := [_, _, _]) (by decide) rfl rfl (Nat.le_of_ble_eq_true rfl) rfl (fun hav => ?_)
  refine Z_aload_n (n := 1) dX3_value_0 rfl rfl ?_
  refine Z_iload_n (n := 2) dX3_value_1 rfl rfl ?_
  refine Z_callVi (n := 5) [_] _ dX3_value_2 rfl cwX3_139 rfl rfl (by first | rfl | exact nS0 (nA_at (by omega) (by omega))) (Nat.le_of_ble_eq_true rfl) (by refine ⟨?_, ?_, ?_, ?_⟩ <;> exact Nat.le_of_ble_eq_true rfl) (fun _ h => h) (zX3_hasFunction  ) ?_
  intro x2 M2 J2 z2 f2 q2
  obtain ⟨e2_1, e2_2, h2⟩ := q2
  replace e2_1 := e2_1.symm; subst e2_1
  replace e2_2 := e2_2.symm; subst e2_2
  refine Z_if_ne (n := 8) (t := 10) dX3_value_5 rfl (by decide) (fun c5 => ?_) (fun c5 => ?_)
  · refine Z_iload_n (n := 11) dX3_value_10 rfl rfl ?_
    refine Z_callSi (n := 14) [_] _ dX3_value_11 rfl cwX3_91 rfl rfl (Nat.le_of_ble_eq_true rfl) (by refine ⟨?_, ?_, ?_, ?_⟩ <;> exact Nat.le_of_ble_eq_true rfl) (fun _ h => h) (zX3_isAssignment  ) ?_
    intro x11 M11 J11 z11 f11 q11
    obtain ⟨e11_1, e11_2, h11⟩ := q11
    replace e11_1 := e11_1.symm; subst e11_1
    replace e11_2 := e11_2.symm; subst e11_2
    refine Z_if_ne (n := 17) (t := 20) dX3_value_14 rfl (by decide) (fun c14 => ?_) (fun c14 => ?_)
    · refine Z_aload_n (n := 21) dX3_value_20 rfl rfl ?_
      refine Z_getO (n := 24) dX3_value_21 rfl ffX3_25 (by first | rfl | exact nS0 (nA_at (by omega) (by omega))) (by first | rfl | exact nS0 (nA_at (by omega) (by omega))) ?_
      refine Z_aload_n (n := 25) dX3_value_24 rfl rfl ?_
      refine Z_getA (n := 28) dX3_value_25 rfl ffX3_29 (by first | rfl | exact nS0 (nA_at (by omega) (by omega))) (by first | rfl | exact nS0 (nA_at (by omega) (by omega))) ?_
      refine Z_iload_n (n := 29) dX3_value_28 rfl rfl ?_
      refine Z_iald (n := 30) dX3_value_29 rfl (by first | rfl | exact nS0 (nA_at (by omega) (by omega))) rfl (by first | decide | assumption) (by omega) (by omega) (fun r29 s29 => ?_)
      refine Z_iload_n (n := 31) dX3_value_30 rfl rfl ?_
      refine Z_aload_n (n := 32) dX3_value_31 rfl rfl ?_
      refine Z_getO (n := 35) dX3_value_32 rfl ffX3_18 (by first | rfl | exact nS0 (nA_at (by omega) (by omega))) (by first | rfl | exact nS0 (nA_at (by omega) (by omega))) ?_
      refine Z_callVi (n := 38) [_, _, _] _ dX3_value_35 rfl cwX3_164 rfl rfl (by first | rfl | exact nS0 (nA_at (by omega) (by omega))) (Nat.le_of_ble_eq_true rfl) (by refine ⟨?_, ?_, ?_, ?_⟩ <;> exact Nat.le_of_ble_eq_true rfl) (fun _ h => h) (zX2_valueFor  (by first | assumption | omega | decide) (by first | assumption | omega | decide)) ?_
      intro x35 M35 J35 z35 f35 q35
      obtain ⟨e35_1, e35_2, h35⟩ := q35
      replace e35_1 := e35_1.symm; subst e35_1
      replace e35_2 := e35_2.symm; subst e35_2
      refine Z_iret dX3_value_38 rfl ?_
      exact ⟨rfl, rfl, fun q => by have := q f (by omega) (by omega); omega⟩
    · refine Z_bipush (n := 19) dX3_value_17 rfl (by decide) (by decide) ?_
      refine Z_iret dX3_value_19 rfl ?_
      exact ⟨rfl, rfl, fun q => by have := q f (by omega) (by omega); omega⟩
  · refine Z_iconst (n := 9) dX3_value_8 rfl (by decide) ?_
    refine Z_iret dX3_value_9 rfl ?_
    exact ⟨rfl, rfl, fun _ => rfl⟩
set_option maxRecDepth 20000 in
theorem zX3_same {G : tl_G} {M : zM} {J : zJ} {f g : Int}  : ZN G yX3_same mX3_same 2 kAll [vR 0, vI f, vI g] F1 M J (qI (fun x M' J' => M' = M ∧ J' = J ∧ (noH M → x = -1))) := by
  refine ZN_of (L := [_, _, _]) (by decide) rfl rfl (Nat.le_of_ble_eq_true rfl) rfl (fun hav => ?_)
  refine Z_aload_n (n := 1) dX3_same_0 rfl rfl ?_
  refine Z_iload_n (n := 2) dX3_same_1 rfl rfl ?_
  refine Z_callVi (n := 5) [_] _ dX3_same_2 rfl cwX3_139 rfl rfl (by first | rfl | exact nS0 (nA_at (by omega) (by omega))) (Nat.le_of_ble_eq_true rfl) (by refine ⟨?_, ?_, ?_, ?_⟩ <;> exact Nat.le_of_ble_eq_true rfl) (fun _ h => h) (zX3_hasFunction  ) ?_
  intro x2 M2 J2 z2 f2 q2
  obtain ⟨e2_1, e2_2, h2⟩ := q2
  replace e2_1 := e2_1.symm; subst e2_1
  replace e2_2 := e2_2.symm; subst e2_2
  refine Z_if_eq (n := 8) (t := 16) dX3_same_5 rfl (by decide) (fun c5 => ?_) (fun c5 => ?_)
  · refine Z_iconst (n := 17) dX3_same_16 rfl (by decide) ?_
    refine Z_iret dX3_same_17 rfl ?_
    exact ⟨rfl, rfl, fun _ => rfl⟩
  · refine Z_aload_n (n := 9) dX3_same_8 rfl rfl ?_
    refine Z_iload_n (n := 10) dX3_same_9 rfl rfl ?_
    refine Z_callVi (n := 13) [_] _ dX3_same_10 rfl cwX3_139 rfl rfl (by first | rfl | exact nS0 (nA_at (by omega) (by omega))) (Nat.le_of_ble_eq_true rfl) (by refine ⟨?_, ?_, ?_, ?_⟩ <;> exact Nat.le_of_ble_eq_true rfl) (fun _ h => h) (zX3_hasFunction  ) ?_
    intro x10 M10 J10 z10 f10 q10
    obtain ⟨e10_1, e10_2, h10⟩ := q10
    replace e10_1 := e10_1.symm; subst e10_1
    replace e10_2 := e10_2.symm; subst e10_2
    refine Z_if_ne (n := 16) (t := 18) dX3_same_13 rfl (by decide) (fun c13 => ?_) (fun c13 => ?_)
    · refine Z_aload_n (n := 19) dX3_same_18 rfl rfl ?_
      refine Z_getA (n := 22) dX3_same_19 rfl ffX3_29 (by first | rfl | exact nS0 (nA_at (by omega) (by omega))) (by first | rfl | exact nS0 (nA_at (by omega) (by omega))) ?_
      refine Z_iload_n (n := 23) dX3_same_22 rfl rfl ?_
      refine Z_iald (n := 24) dX3_same_23 rfl (by first | rfl | exact nS0 (nA_at (by omega) (by omega))) rfl (by first | decide | assumption) (by omega) (by omega) (fun r23 s23 => ?_)
      refine Z_aload_n (n := 25) dX3_same_24 rfl rfl ?_
      refine Z_getA (n := 28) dX3_same_25 rfl ffX3_29 (by first | rfl | exact nS0 (nA_at (by omega) (by omega))) (by first | rfl | exact nS0 (nA_at (by omega) (by omega))) ?_
      refine Z_iload_n (n := 29) dX3_same_28 rfl rfl ?_
      refine Z_iald (n := 30) dX3_same_29 rfl (by first | rfl | exact nS0 (nA_at (by omega) (by omega))) rfl (by first | decide | assumption) (by omega) (by omega) (fun r29 s29 => ?_)
      refine Z_icmp_ne (n := 33) (t := 37) dX3_same_30 rfl (by decide) (fun c30 => ?_) (fun c30 => ?_)
      · refine Z_iconst (n := 38) dX3_same_37 rfl (by decide) ?_
        refine Z_iret dX3_same_38 rfl ?_
        exact ⟨rfl, rfl, fun q => by have := q f (by omega) (by omega); omega⟩
      · refine Z_iconst (n := 34) dX3_same_33 rfl (by decide) ?_
        refine Z_goto (t := 38) dX3_same_34 (by decide) ?_
        refine Z_iret dX3_same_38 rfl ?_
        exact ⟨rfl, rfl, fun q => by have := q f (by omega) (by omega); omega⟩
    · refine Z_iconst (n := 17) dX3_same_16 rfl (by decide) ?_
      refine Z_iret dX3_same_17 rfl ?_
      exact ⟨rfl, rfl, fun _ => rfl⟩
set_option maxRecDepth 20000 in
theorem zX3_top {G : tl_G} {M : zM} {J : zJ} {f : Int}  : ZN G yX3_top mX3_top 2 kAll [vR 0, vI f] F1 M J (qI (fun x M' J' => M' = M ∧ J' = J ∧ (noH M → x = -1))) := by
  refine ZN_of (L := [_, _, _]) (by decide) rfl rfl (Nat.le_of_ble_eq_true rfl) rfl (fun hav => ?_)
  refine Z_aload_n (n := 1) dX3_top_0 rfl rfl ?_
  refine Z_iload_n (n := 2) dX3_top_1 rfl rfl ?_
  refine Z_callVi (n := 5) [_] _ dX3_top_2 rfl cwX3_139 rfl rfl (by first | rfl | exact nS0 (nA_at (by omega) (by omega))) (Nat.le_of_ble_eq_true rfl) (by refine ⟨?_, ?_, ?_, ?_⟩ <;> exact Nat.le_of_ble_eq_true rfl) (fun _ h => h) (zX3_hasFunction  ) ?_
  intro x2 M2 J2 z2 f2 q2
  obtain ⟨e2_1, e2_2, h2⟩ := q2
  replace e2_1 := e2_1.symm; subst e2_1
  replace e2_2 := e2_2.symm; subst e2_2
  refine Z_if_ne (n := 8) (t := 10) dX3_top_5 rfl (by decide) (fun c5 => ?_) (fun c5 => ?_)
  · refine Z_aload_n (n := 11) dX3_top_10 rfl rfl ?_
    refine Z_getO (n := 14) dX3_top_11 rfl ffX3_25 (by first | rfl | exact nS0 (nA_at (by omega) (by omega))) (by first | rfl | exact nS0 (nA_at (by omega) (by omega))) ?_
    refine Z_aload_n (n := 15) dX3_top_14 rfl rfl ?_
    refine Z_getA (n := 18) dX3_top_15 rfl ffX3_29 (by first | rfl | exact nS0 (nA_at (by omega) (by omega))) (by first | rfl | exact nS0 (nA_at (by omega) (by omega))) ?_
    refine Z_iload_n (n := 19) dX3_top_18 rfl rfl ?_
    refine Z_iald (n := 20) dX3_top_19 rfl (by first | rfl | exact nS0 (nA_at (by omega) (by omega))) rfl (by first | decide | assumption) (by omega) (by omega) (fun r19 s19 => ?_)
    refine Z_callVi (n := 23) [_] _ dX3_top_20 rfl cwX3_171 rfl rfl (by first | rfl | exact nS0 (nA_at (by omega) (by omega))) (Nat.le_of_ble_eq_true rfl) (by refine ⟨?_, ?_, ?_, ?_⟩ <;> exact Nat.le_of_ble_eq_true rfl) (fun _ h => h) (zX2_placeOf  (by first | assumption | omega | decide) (by first | assumption | omega | decide)) ?_
    intro x20 M20 J20 z20 f20 q20
    obtain ⟨e20_1, e20_2, h20⟩ := q20
    replace e20_1 := e20_1.symm; subst e20_1
    replace e20_2 := e20_2.symm; subst e20_2
    refine Z_istore_n (L' := [_, _, _]) (n := 24) dX3_top_23 rfl (by decide) rfl rfl ?_
    refine Z_iload_n (n := 25) dX3_top_24 rfl rfl ?_
    refine Z_bipush (n := 27) dX3_top_25 rfl (by decide) (by decide) ?_
    refine Z_icmp_ge (n := 30) (t := 41) dX3_top_27 rfl (by decide) (fun c27 => ?_) (fun c27 => ?_)
    · refine Z_bipush (n := 43) dX3_top_41 rfl (by decide) (by decide) ?_
      refine Z_iret dX3_top_43 rfl ?_
      exact ⟨rfl, rfl, fun q => by have := q f (by omega) (by omega); omega⟩
    · refine Z_aload_n (n := 31) dX3_top_30 rfl rfl ?_
      refine Z_getO (n := 34) dX3_top_31 rfl ffX3_18 (by first | rfl | exact nS0 (nA_at (by omega) (by omega))) (by first | rfl | exact nS0 (nA_at (by omega) (by omega))) ?_
      refine Z_iload_n (n := 35) dX3_top_34 rfl rfl ?_
      refine Z_rg 6 (M 12 f) rfl (fun g6 g6b => ?_)
      refine Z_callVi (n := 38) [_] _ dX3_top_35 rfl cwX3_114 rfl rfl (by first | rfl | exact nS0 (nA_at (by omega) (by omega))) (Nat.le_of_ble_eq_true rfl) (by refine ⟨?_, ?_, ?_, ?_⟩ <;> exact Nat.le_of_ble_eq_true rfl) (fun _ h => h) (zX1_variableAt  (by first | assumption | omega | decide) (by first | assumption | omega | decide)) ?_
      intro x35 M35 J35 z35 f35 q35
      obtain ⟨e35_1, e35_2, h35⟩ := q35
      replace e35_1 := e35_1.symm; subst e35_1
      replace e35_2 := e35_2.symm; subst e35_2
      refine Z_goto (t := 43) dX3_top_38 (by decide) ?_
      refine Z_iret dX3_top_43 rfl ?_
      exact ⟨rfl, rfl, fun q => by have := q f (by omega) (by omega); omega⟩
  · refine Z_iconst (n := 9) dX3_top_8 rfl (by decide) ?_
    refine Z_iret dX3_top_9 rfl ?_
    exact ⟨rfl, rfl, fun _ => rfl⟩
set_option maxRecDepth 20000 in
theorem zX3_least {G : tl_G} {M : zM} {J : zJ} {f y : Int}  : ZN G yX3_least mX3_least 2 kAll [vR 0, vI f, vI y] F1 M J (qI (fun x M' J' => M' = M ∧ J' = J ∧ (noH M → x = -1))) := by
  refine ZN_of (L := [_, _, _]) (by decide) rfl rfl (Nat.le_of_ble_eq_true rfl) rfl (fun hav => ?_)
  refine Z_aload_n (n := 1) dX3_least_0 rfl rfl ?_
  refine Z_iload_n (n := 2) dX3_least_1 rfl rfl ?_
  refine Z_callVi (n := 5) [_] _ dX3_least_2 rfl cwX3_139 rfl rfl (by first | rfl | exact nS0 (nA_at (by omega) (by omega))) (Nat.le_of_ble_eq_true rfl) (by refine ⟨?_, ?_, ?_, ?_⟩ <;> exact Nat.le_of_ble_eq_true rfl) (fun _ h => h) (zX3_hasFunction  ) ?_
  intro x2 M2 J2 z2 f2 q2
  obtain ⟨e2_1, e2_2, h2⟩ := q2
  replace e2_1 := e2_1.symm; subst e2_1
  replace e2_2 := e2_2.symm; subst e2_2
  refine Z_if_ne (n := 8) (t := 10) dX3_least_5 rfl (by decide) (fun c5 => ?_) (fun c5 => ?_)
  · refine Z_aload_n (n := 11) dX3_least_10 rfl rfl ?_
    refine Z_getO (n := 14) dX3_least_11 rfl ffX3_25 (by first | rfl | exact nS0 (nA_at (by omega) (by omega))) (by first | rfl | exact nS0 (nA_at (by omega) (by omega))) ?_
    refine Z_aload_n (n := 15) dX3_least_14 rfl rfl ?_
    refine Z_getA (n := 18) dX3_least_15 rfl ffX3_29 (by first | rfl | exact nS0 (nA_at (by omega) (by omega))) (by first | rfl | exact nS0 (nA_at (by omega) (by omega))) ?_
    refine Z_iload_n (n := 19) dX3_least_18 rfl rfl ?_
    refine Z_iald (n := 20) dX3_least_19 rfl (by first | rfl | exact nS0 (nA_at (by omega) (by omega))) rfl (by first | decide | assumption) (by omega) (by omega) (fun r19 s19 => ?_)
    refine Z_iload_n (n := 21) dX3_least_20 rfl rfl ?_
    refine Z_if_eq (n := 24) (t := 28) dX3_least_21 rfl (by decide) (fun c21 => ?_) (fun c21 => ?_)
    · refine Z_iconst (n := 29) dX3_least_28 rfl (by decide) ?_
      refine Z_aload_n (n := 30) dX3_least_29 rfl rfl ?_
      refine Z_getO (n := 33) dX3_least_30 rfl ffX3_18 (by first | rfl | exact nS0 (nA_at (by omega) (by omega))) (by first | rfl | exact nS0 (nA_at (by omega) (by omega))) ?_
      refine Z_callVi (n := 36) [_, _, _] _ dX3_least_33 rfl cwX3_175 rfl rfl (by first | rfl | exact nS0 (nA_at (by omega) (by omega))) (Nat.le_of_ble_eq_true rfl) (by refine ⟨?_, ?_, ?_, ?_⟩ <;> exact Nat.le_of_ble_eq_true rfl) (fun _ h => h) (zX2_leastFor  (by first | assumption | omega | decide) (by first | assumption | omega | decide)) ?_
      intro x33 M33 J33 z33 f33 q33
      obtain ⟨e33_1, e33_2⟩ := q33
      replace e33_1 := e33_1.symm; subst e33_1
      replace e33_2 := e33_2.symm; subst e33_2
      refine Z_iret dX3_least_36 rfl ?_
      exact ⟨rfl, rfl, fun q => by have := q f (by omega) (by omega); omega⟩
    · refine Z_iconst (n := 25) dX3_least_24 rfl (by decide) ?_
      refine Z_goto (t := 29) dX3_least_25 (by decide) ?_
      refine Z_aload_n (n := 30) dX3_least_29 rfl rfl ?_
      refine Z_getO (n := 33) dX3_least_30 rfl ffX3_18 (by first | rfl | exact nS0 (nA_at (by omega) (by omega))) (by first | rfl | exact nS0 (nA_at (by omega) (by omega))) ?_
      refine Z_callVi (n := 36) [_, _, _] _ dX3_least_33 rfl cwX3_175 rfl rfl (by first | rfl | exact nS0 (nA_at (by omega) (by omega))) (Nat.le_of_ble_eq_true rfl) (by refine ⟨?_, ?_, ?_, ?_⟩ <;> exact Nat.le_of_ble_eq_true rfl) (fun _ h => h) (zX2_leastFor  (by first | assumption | omega | decide) (by first | assumption | omega | decide)) ?_
      intro x33 M33 J33 z33 f33 q33
      obtain ⟨e33_1, e33_2⟩ := q33
      replace e33_1 := e33_1.symm; subst e33_1
      replace e33_2 := e33_2.symm; subst e33_2
      refine Z_iret dX3_least_36 rfl ?_
      exact ⟨rfl, rfl, fun q => by have := q f (by omega) (by omega); omega⟩
  · refine Z_iconst (n := 9) dX3_least_8 rfl (by decide) ?_
    refine Z_iret dX3_least_9 rfl ?_
    exact ⟨rfl, rfl, fun _ => rfl⟩
set_option maxRecDepth 20000 in
theorem zX3_paths {G : tl_G} {M : zM} {J : zJ} {f y : Int}  : ZN G yX3_paths mX3_paths 10 kAll [vR 0, vI f, vI y] F1 M J (qI (fun x M' J' => M' = M ∧ J' = J ∧ (noH M → x = -1))) := by
  refine ZN_of (L := [_, _, _]) (by decide) rfl rfl (Nat.le_of_ble_eq_true rfl) rfl (fun hav => ?_)
  refine Z_aload_n (n := 1) dX3_paths_0 rfl rfl ?_
  refine Z_iload_n (n := 2) dX3_paths_1 rfl rfl ?_
  refine Z_callVi (n := 5) [_] _ dX3_paths_2 rfl cwX3_139 rfl rfl (by first | rfl | exact nS0 (nA_at (by omega) (by omega))) (Nat.le_of_ble_eq_true rfl) (by refine ⟨?_, ?_, ?_, ?_⟩ <;> exact Nat.le_of_ble_eq_true rfl) (fun _ h => h) (zX3_hasFunction  ) ?_
  intro x2 M2 J2 z2 f2 q2
  obtain ⟨e2_1, e2_2, h2⟩ := q2
  replace e2_1 := e2_1.symm; subst e2_1
  replace e2_2 := e2_2.symm; subst e2_2
  refine Z_if_ne (n := 8) (t := 10) dX3_paths_5 rfl (by decide) (fun c5 => ?_) (fun c5 => ?_)
  · refine Z_aload_n (n := 11) dX3_paths_10 rfl rfl ?_
    refine Z_getO (n := 14) dX3_paths_11 rfl ffX3_25 (by first | rfl | exact nS0 (nA_at (by omega) (by omega))) (by first | rfl | exact nS0 (nA_at (by omega) (by omega))) ?_
    refine Z_aload_n (n := 15) dX3_paths_14 rfl rfl ?_
    refine Z_getA (n := 18) dX3_paths_15 rfl ffX3_29 (by first | rfl | exact nS0 (nA_at (by omega) (by omega))) (by first | rfl | exact nS0 (nA_at (by omega) (by omega))) ?_
    refine Z_iload_n (n := 19) dX3_paths_18 rfl rfl ?_
    refine Z_iald (n := 20) dX3_paths_19 rfl (by first | rfl | exact nS0 (nA_at (by omega) (by omega))) rfl (by first | decide | assumption) (by omega) (by omega) (fun r19 s19 => ?_)
    refine Z_iload_n (n := 21) dX3_paths_20 rfl rfl ?_
    refine Z_if_eq (n := 24) (t := 28) dX3_paths_21 rfl (by decide) (fun c21 => ?_) (fun c21 => ?_)
    · refine Z_iconst (n := 29) dX3_paths_28 rfl (by decide) ?_
      refine Z_callVi (n := 32) [_, _] _ dX3_paths_29 rfl cwX3_178 rfl rfl (by first | rfl | exact nS0 (nA_at (by omega) (by omega))) (Nat.le_of_ble_eq_true rfl) (by refine ⟨?_, ?_, ?_, ?_⟩ <;> exact Nat.le_of_ble_eq_true rfl) (fun _ h => h) (zX2_pathCount  (by first | assumption | omega | decide) (by first | assumption | omega | decide)) ?_
      intro x29 M29 J29 z29 f29 q29
      obtain ⟨e29_1, e29_2⟩ := q29
      replace e29_1 := e29_1.symm; subst e29_1
      replace e29_2 := e29_2.symm; subst e29_2
      refine Z_iret dX3_paths_32 rfl ?_
      exact ⟨rfl, rfl, fun q => by have := q f (by omega) (by omega); omega⟩
    · refine Z_iconst (n := 25) dX3_paths_24 rfl (by decide) ?_
      refine Z_goto (t := 29) dX3_paths_25 (by decide) ?_
      refine Z_callVi (n := 32) [_, _] _ dX3_paths_29 rfl cwX3_178 rfl rfl (by first | rfl | exact nS0 (nA_at (by omega) (by omega))) (Nat.le_of_ble_eq_true rfl) (by refine ⟨?_, ?_, ?_, ?_⟩ <;> exact Nat.le_of_ble_eq_true rfl) (fun _ h => h) (zX2_pathCount  (by first | assumption | omega | decide) (by first | assumption | omega | decide)) ?_
      intro x29 M29 J29 z29 f29 q29
      obtain ⟨e29_1, e29_2⟩ := q29
      replace e29_1 := e29_1.symm; subst e29_1
      replace e29_2 := e29_2.symm; subst e29_2
      refine Z_iret dX3_paths_32 rfl ?_
      exact ⟨rfl, rfl, fun q => by have := q f (by omega) (by omega); omega⟩
  · refine Z_iconst (n := 9) dX3_paths_8 rfl (by decide) ?_
    refine Z_iret dX3_paths_9 rfl ?_
    exact ⟨rfl, rfl, fun _ => rfl⟩
set_option maxRecDepth 20000 in
theorem zX3_count {G : tl_G} {M : zM} {J : zJ} {f : Int}  : ZN G yX3_count mX3_count 2 kAll [vR 0, vI f] F1 M J (qI (fun x M' J' => M' = M ∧ J' = J ∧ (noH M → x = -1))) := by
  refine ZN_of (L := [_, _, _, _]) (by decide) rfl rfl (Nat.le_of_ble_eq_true rfl) rfl (fun hav => ?_)
  refine Z_aload_n (n := 1) dX3_count_0 rfl rfl ?_
  refine Z_iload_n (n := 2) dX3_count_1 rfl rfl ?_
  refine Z_callVi (n := 5) [_] _ dX3_count_2 rfl cwX3_139 rfl rfl (by first | rfl | exact nS0 (nA_at (by omega) (by omega))) (Nat.le_of_ble_eq_true rfl) (by refine ⟨?_, ?_, ?_, ?_⟩ <;> exact Nat.le_of_ble_eq_true rfl) (fun _ h => h) (zX3_hasFunction  ) ?_
  intro x2 M2 J2 z2 f2 q2
  obtain ⟨e2_1, e2_2, h2⟩ := q2
  replace e2_1 := e2_1.symm; subst e2_1
  replace e2_2 := e2_2.symm; subst e2_2
  refine Z_if_ne (n := 8) (t := 10) dX3_count_5 rfl (by decide) (fun c5 => ?_) (fun c5 => ?_)
  · refine Z_iconst (n := 11) dX3_count_10 rfl (by decide) ?_
    refine Z_istore_n (L' := [_, _, _, _]) (n := 12) dX3_count_11 rfl (by decide) rfl rfl ?_
    refine Z_iconst (n := 13) dX3_count_12 rfl (by decide) ?_
    refine Z_istore_n (L' := [_, _, _, _]) (n := 14) dX3_count_13 rfl (by decide) rfl rfl ?_
    have lp14 : ∀ (N14 : Nat) (n a : Int) , ((256 - a).toNat) < N14 → (0 ≤ a) → (a ≤ 256) → (0 ≤ n) → (n ≤ a) → TZ G mX3_count (tl_rm 2 0 0) 0 0 kAll M J 14 [some (vR 0), some (vI f), some (vI n), some (vI a)] [] F1 M J (ZM G (zPost G kAll F1 M J (qI (fun x M' J' => M' = M ∧ J' = J ∧ (noH M → x = -1)))) 0 0) := by
      intro N14
      induction N14 with
      | zero => intro n a  hN; omega
      | succ N14 ih14 =>
        intro n a  hN14 i14_0 i14_1 i14_2 i14_3
        refine Z_iload_n (n := 15) dX3_count_14 rfl rfl ?_
        refine Z_sipush (n := 18) dX3_count_15 rfl (by decide) (by decide) ?_
        refine Z_icmp_ge (n := 21) (t := 48) dX3_count_18 rfl (by decide) (fun c18 => ?_) (fun c18 => ?_)
        · refine Z_iload_n (n := 49) dX3_count_48 rfl rfl ?_
          refine Z_iret dX3_count_49 rfl ?_
          exact ⟨rfl, rfl, fun q => by have := q f (by omega) (by omega); omega⟩
        · refine Z_iload_n (n := 22) dX3_count_21 rfl rfl ?_
          refine Z_aload_n (n := 23) dX3_count_22 rfl rfl ?_
          refine Z_getO (n := 26) dX3_count_23 rfl ffX3_25 (by first | rfl | exact nS0 (nA_at (by omega) (by omega))) (by first | rfl | exact nS0 (nA_at (by omega) (by omega))) ?_
          refine Z_aload_n (n := 27) dX3_count_26 rfl rfl ?_
          refine Z_getA (n := 30) dX3_count_27 rfl ffX3_29 (by first | rfl | exact nS0 (nA_at (by omega) (by omega))) (by first | rfl | exact nS0 (nA_at (by omega) (by omega))) ?_
          refine Z_iload_n (n := 31) dX3_count_30 rfl rfl ?_
          refine Z_iald (n := 32) dX3_count_31 rfl (by first | rfl | exact nS0 (nA_at (by omega) (by omega))) rfl (by first | decide | assumption) (by omega) (by omega) (fun r31 s31 => ?_)
          refine Z_iload_n (n := 33) dX3_count_32 rfl rfl ?_
          refine Z_aload_n (n := 34) dX3_count_33 rfl rfl ?_
          refine Z_getO (n := 37) dX3_count_34 rfl ffX3_18 (by first | rfl | exact nS0 (nA_at (by omega) (by omega))) (by first | rfl | exact nS0 (nA_at (by omega) (by omega))) ?_
          refine Z_callVi (n := 40) [_, _, _] _ dX3_count_37 rfl cwX3_164 rfl rfl (by first | rfl | exact nS0 (nA_at (by omega) (by omega))) (Nat.le_of_ble_eq_true rfl) (by refine ⟨?_, ?_, ?_, ?_⟩ <;> exact Nat.le_of_ble_eq_true rfl) (fun _ h => h) (zX2_valueFor  (by first | assumption | omega | decide) (by first | assumption | omega | decide)) ?_
          intro x37 M37 J37 z37 f37 q37
          obtain ⟨e37_1, e37_2, h37⟩ := q37
          replace e37_1 := e37_1.symm; subst e37_1
          replace e37_2 := e37_2.symm; subst e37_2
          refine Z_iadd (n := 41) dX3_count_40 rfl (by omega) ?_
          refine Z_istore_n (L' := [_, _, _, _]) (n := 42) dX3_count_41 rfl (by decide) rfl rfl ?_
          refine Z_iinc (L' := [_, _, _, _]) (n := 45) dX3_count_42 rfl rfl (by decide) rfl rfl (by omega) rfl ?_
          refine Z_goto (t := 14) dX3_count_45 (by decide) ?_
          refine Z_loc (L' := [some _, some _, some _, some _]) (lsub_same (lsub_same (lsub_same (lsub_same lsub_nil)))) ?_
          exact ih14 _ _  (by omega) (by first | assumption | omega | decide) (by first | assumption | omega | decide) (by first | assumption | omega | decide) (by first | assumption | omega | decide)
    refine Z_loc (L' := [some _, some _, some _, some _]) (lsub_same (lsub_same (lsub_same (lsub_same lsub_nil)))) ?_
    exact lp14 _ _ _  (Nat.lt_succ_self _) (by first | assumption | omega | decide) (by first | assumption | omega | decide) (by first | assumption | omega | decide) (by first | assumption | omega | decide)
  · refine Z_iconst (n := 9) dX3_count_8 rfl (by decide) ?_
    refine Z_iret dX3_count_9 rfl ?_
    exact ⟨rfl, rfl, fun _ => rfl⟩
set_option maxRecDepth 20000 in
theorem zX3_support {G : tl_G} {M : zM} {J : zJ} {f : Int} (hc : cI M) : ZN G yX3_support mX3_support 11 kPub [vR 0, vI f] F1 M J (qI (fun x M' J' => J' = J ∧ cI M' ∧ (noH M → x = -1))) := by
  refine ZN_of (L := [_, _, _, _]) (by decide) rfl rfl (Nat.le_of_ble_eq_true rfl) rfl (fun hav => ?_)
  refine Z_aload_n (n := 1) dX3_support_0 rfl rfl ?_
  refine Z_iload_n (n := 2) dX3_support_1 rfl rfl ?_
  refine Z_callVi (n := 5) [_] _ dX3_support_2 rfl cwX3_139 rfl rfl (by first | rfl | exact nS0 (nA_at (by omega) (by omega))) (Nat.le_of_ble_eq_true rfl) (by refine ⟨?_, ?_, ?_, ?_⟩ <;> exact Nat.le_of_ble_eq_true rfl) (fun _ _ => trivial) (zX3_hasFunction  ) ?_
  intro x2 M2 J2 z2 f2 q2
  obtain ⟨e2_1, e2_2, h2⟩ := q2
  replace e2_1 := e2_1.symm; subst e2_1
  replace e2_2 := e2_2.symm; subst e2_2
  refine Z_if_ne (n := 8) (t := 10) dX3_support_5 rfl (by decide) (fun c5 => ?_) (fun c5 => ?_)
  · refine Z_iconst (n := 11) dX3_support_10 rfl (by decide) ?_
    refine Z_istore_n (L' := [_, _, _, _]) (n := 12) dX3_support_11 rfl (by decide) rfl rfl ?_
    refine Z_iconst (n := 13) dX3_support_12 rfl (by decide) ?_
    refine Z_istore_n (L' := [_, _, _, _]) (n := 14) dX3_support_13 rfl (by decide) rfl rfl ?_
    have lp14 : ∀ (N14 : Nat) (n p : Int) (M14 : zM) (J14 : zJ), ((8 - p).toNat) < N14 → (J14 = J) → (0 ≤ p) → (p ≤ 8) → (pI M14) → (M14 4 = M 4) → (M14 12 = M 12) → TZ G mX3_support (tl_rm 11 0 0) 0 0 kPub M J 14 [some (vR 0), some (vI f), some (vI n), some (vI p)] [] F1 M14 J14 (ZM G (zPost G kPub F1 M J (qI (fun x M' J' => J' = J ∧ cI M' ∧ (noH M → x = -1)))) 0 0) := by
      intro N14
      induction N14 with
      | zero => intro n p M14 J14 hN; omega
      | succ N14 ih14 =>
        intro n p M14 J14 hN14 i14_0 i14_1 i14_2 i14_3 i14_4 i14_5
        refine Z_iload_n (n := 15) dX3_support_14 rfl rfl ?_
        refine Z_bipush (n := 17) dX3_support_15 rfl (by decide) (by decide) ?_
        refine Z_icmp_ge (n := 20) (t := 56) dX3_support_17 rfl (by decide) (fun c17 => ?_) (fun c17 => ?_)
        · refine Z_iload_n (n := 57) dX3_support_56 rfl rfl ?_
          refine Z_fr (fun frR => ?_)
          refine Z_iret dX3_support_57 rfl ?_
          exact ⟨i14_0, cI_mk hc frR i14_3 (ordOK_fr hc.2.1 i14_4), fun q => by have := q f (by omega) (by omega); omega⟩
        · refine Z_aload_n (n := 21) dX3_support_20 rfl rfl ?_
          refine Z_getO (n := 24) dX3_support_21 rfl ffX3_25 (by first | rfl | exact nS0 (nA_at (by omega) (by omega))) (by first | rfl | exact nS0 (nA_at (by omega) (by omega))) ?_
          refine Z_aload_n (n := 25) dX3_support_24 rfl rfl ?_
          refine Z_getA (n := 28) dX3_support_25 rfl ffX3_29 (by first | rfl | exact nS0 (nA_at (by omega) (by omega))) (by first | rfl | exact nS0 (nA_at (by omega) (by omega))) ?_
          refine Z_iload_n (n := 29) dX3_support_28 rfl rfl ?_
          refine Z_iald (n := 30) dX3_support_29 rfl (by first | rfl | exact nS0 (nA_at (by omega) (by omega))) rfl (by first | decide | assumption) (by omega) (by omega) (fun r29 s29 => ?_)
          try simp only [i14_5] at r29 s29 ⊢
          refine Z_iload_n (n := 31) dX3_support_30 rfl rfl ?_
          refine Z_callVi (n := 34) [_, _] _ dX3_support_31 rfl cwX3_168 rfl rfl (by first | rfl | exact nS0 (nA_at (by omega) (by omega))) (Nat.le_of_ble_eq_true rfl) (by refine ⟨?_, ?_, ?_, ?_⟩ <;> exact Nat.le_of_ble_eq_true rfl) (fun a h => by unfold kPub at h; unfold kMarks; omega) (zX2_nodeCountAt  (by first | assumption | omega | decide) (by first | assumption | omega | decide)) ?_
          intro x31 M31 J31 z31 f31 q31
          obtain ⟨e31_1, h31⟩ := q31
          replace e31_1 := e31_1.symm; subst e31_1
          refine Z_if_le (n := 37) (t := 50) dX3_support_34 rfl (by decide) (fun c34 => ?_) (fun c34 => ?_)
          · refine Z_iinc (L' := [_, _, _, _]) (n := 53) dX3_support_50 rfl rfl (by decide) rfl rfl (by omega) rfl ?_
            refine Z_goto (t := 14) dX3_support_53 (by decide) ?_
            refine Z_loc (L' := [some _, some _, some _, some _]) (lsub_same (lsub_same (lsub_same (lsub_same lsub_nil)))) ?_
            exact ih14 _ _ _ _ (by omega) (by first | rfl | assumption) (by first | assumption | omega | decide) (by first | assumption | omega | decide) (by first | exact hc.1 | exact pI_fr i14_3 (f31 5 (by decide)).1 (f31 6 (by decide)).1 (f31 10 (by decide)).1 (f31 11 (by decide)).1) (by first | rfl | exact ((f31 4 (by decide)).1).trans i14_4) (by first | rfl | exact ((f31 12 (by decide)).1).trans i14_5)
          · refine Z_iload_n (n := 38) dX3_support_37 rfl rfl ?_
            refine Z_iconst (n := 39) dX3_support_38 rfl (by decide) ?_
            refine Z_aload_n (n := 40) dX3_support_39 rfl rfl ?_
            refine Z_getO (n := 43) dX3_support_40 rfl ffX3_18 (by first | rfl | exact nS0 (nA_at (by omega) (by omega))) (by first | rfl | exact nS0 (nA_at (by omega) (by omega))) ?_
            refine Z_iload_n (n := 44) dX3_support_43 rfl rfl ?_
            refine Z_callVi (n := 47) [_] _ dX3_support_44 rfl cwX3_114 rfl rfl (by first | rfl | exact nS0 (nA_at (by omega) (by omega))) (Nat.le_of_ble_eq_true rfl) (by refine ⟨?_, ?_, ?_, ?_⟩ <;> exact Nat.le_of_ble_eq_true rfl) (fun _ _ => trivial) (zX1_variableAt  (by first | assumption | omega | decide) (by first | assumption | omega | decide)) ?_
            intro x44 M44 J44 z44 f44 q44
            obtain ⟨e44_1, e44_2, h44⟩ := q44
            replace e44_1 := e44_1.symm; subst e44_1
            replace e44_2 := e44_2.symm; subst e44_2
            refine Z_ishl (n := 48) dX3_support_47 rfl ?_
            refine Z_ior (n := 49) dX3_support_48 rfl ?_
            refine Z_istore_n (L' := [_, _, _, _]) (n := 50) dX3_support_49 rfl (by decide) rfl rfl ?_
            refine Z_iinc (L' := [_, _, _, _]) (n := 53) dX3_support_50 rfl rfl (by decide) rfl rfl (by omega) rfl ?_
            refine Z_goto (t := 14) dX3_support_53 (by decide) ?_
            refine Z_loc (L' := [some _, some _, some _, some _]) (lsub_same (lsub_same (lsub_same (lsub_same lsub_nil)))) ?_
            exact ih14 _ _ _ _ (by omega) (by first | rfl | assumption) (by first | assumption | omega | decide) (by first | assumption | omega | decide) (by first | exact hc.1 | exact pI_fr i14_3 (f31 5 (by decide)).1 (f31 6 (by decide)).1 (f31 10 (by decide)).1 (f31 11 (by decide)).1) (by first | rfl | exact ((f31 4 (by decide)).1).trans i14_4) (by first | rfl | exact ((f31 12 (by decide)).1).trans i14_5)
    refine Z_loc (L' := [some _, some _, some _, some _]) (lsub_same (lsub_same (lsub_same (lsub_same lsub_nil)))) ?_
    exact lp14 _ _ _ _ _ (Nat.lt_succ_self _) (by first | rfl | assumption) (by first | assumption | omega | decide) (by first | assumption | omega | decide) (by first | exact hc.1 | exact pI_fr i14_3 (f31 5 (by decide)).1 (f31 6 (by decide)).1 (f31 10 (by decide)).1 (f31 11 (by decide)).1) (by first | rfl | exact ((f31 4 (by decide)).1).trans i14_4) (by first | rfl | exact ((f31 12 (by decide)).1).trans i14_5)
  · refine Z_iconst (n := 9) dX3_support_8 rfl (by decide) ?_
    refine Z_iret dX3_support_9 rfl ?_
    exact ⟨rfl, hc, fun _ => rfl⟩
set_option maxRecDepth 20000 in
theorem zX3_peak {G : tl_G} {M : zM} {J : zJ}   : ZN G yX3_peak mX3_peak 0 kAll [vR 0] F1 M J (qI (fun x M' J' => M' = M ∧ J' = J ∧ x = M 0 8)) := by
  refine ZN_of (L := [_]) (by decide) rfl rfl (Nat.le_of_ble_eq_true rfl) rfl (fun hav => ?_)
  refine Z_aload_n (n := 1) dX3_peak_0 rfl rfl ?_
  refine Z_getI (n := 4) (ki := 8) dX3_peak_1 rfl ffX3_46 rfl (by first | rfl | exact nS0 (nA_at (by omega) (by omega))) rfl (fun r1 s1 => ?_)
  refine Z_iret dX3_peak_4 rfl ?_
  exact ⟨rfl, rfl, rfl⟩
set_option maxRecDepth 20000 in
theorem zX3_parting {G : tl_G} {M : zM} {J : zJ} {w : Int}  : ZN G yX3_parting mX3_parting 0 kAll [vR 0, vI w] F1 M J (qI (fun x M' J' => M' = M ∧ J' = J ∧ ((w = 0 ∧ x = M 0 9) ∨ (w = 1 ∧ x = M 0 10) ∨ ((w < 0 ∨ 1 < w) ∧ x = -2)))) := by
  refine ZN_of (L := [_, _]) (by decide) rfl rfl (Nat.le_of_ble_eq_true rfl) rfl (fun hav => ?_)
  refine Z_iload_n (n := 1) dX3_parting_0 rfl rfl ?_
  refine Z_if_lt (n := 4) (t := 9) dX3_parting_1 rfl (by decide) (fun c1 => ?_) (fun c1 => ?_)
  · refine Z_bipush (n := 11) dX3_parting_9 rfl (by decide) (by decide) ?_
    refine Z_iret dX3_parting_11 rfl ?_
    refine ⟨rfl, rfl, ?_⟩; omega
  · refine Z_iload_n (n := 5) dX3_parting_4 rfl rfl ?_
    refine Z_iconst (n := 6) dX3_parting_5 rfl (by decide) ?_
    refine Z_icmp_le (n := 9) (t := 12) dX3_parting_6 rfl (by decide) (fun c6 => ?_) (fun c6 => ?_)
    · refine Z_iload_n (n := 13) dX3_parting_12 rfl rfl ?_
      refine Z_if_ne (n := 16) (t := 23) dX3_parting_13 rfl (by decide) (fun c13 => ?_) (fun c13 => ?_)
      · refine Z_aload_n (n := 24) dX3_parting_23 rfl rfl ?_
        refine Z_getI (n := 27) (ki := 10) dX3_parting_24 rfl ffX3_52 rfl (by first | rfl | exact nS0 (nA_at (by omega) (by omega))) rfl (fun r24 s24 => ?_)
        refine Z_iret dX3_parting_27 rfl ?_
        refine ⟨rfl, rfl, ?_⟩; omega
      · refine Z_aload_n (n := 17) dX3_parting_16 rfl rfl ?_
        refine Z_getI (n := 20) (ki := 9) dX3_parting_17 rfl ffX3_49 rfl (by first | rfl | exact nS0 (nA_at (by omega) (by omega))) rfl (fun r17 s17 => ?_)
        refine Z_goto (t := 27) dX3_parting_20 (by decide) ?_
        refine Z_iret dX3_parting_27 rfl ?_
        refine ⟨rfl, rfl, ?_⟩; omega
    · refine Z_bipush (n := 11) dX3_parting_9 rfl (by decide) (by decide) ?_
      refine Z_iret dX3_parting_11 rfl ?_
      refine ⟨rfl, rfl, ?_⟩; omega
set_option maxRecDepth 20000 in
theorem zX3_told {G : tl_G} {M : zM} {J : zJ} {w : Int}  : ZN G yX3_told mX3_told 1 kAll [vR 0, vI w] F1 M J (qI (fun x M' J' => M' = M ∧ J' = J ∧ (((w < 0 ∨ 7 < w) ∧ x = -2) ∨ (0 ≤ w ∧ w < 3 ∧ x = M (nA w) 4) ∨ (3 ≤ w ∧ w < 6 ∧ x = M (nA (w - 3)) 5) ∨ (w = 6 ∧ x = hc (M 12) 12) ∨ (w = 7 ∧ x = M 5 8)))) := by
  refine ZN_of (L := [_, _]) (by decide) rfl rfl (Nat.le_of_ble_eq_true rfl) rfl (fun hav => ?_)
  refine Z_iload_n (n := 1) dX3_told_0 rfl rfl ?_
  refine Z_if_lt (n := 4) (t := 10) dX3_told_1 rfl (by decide) (fun c1 => ?_) (fun c1 => ?_)
  · refine Z_bipush (n := 12) dX3_told_10 rfl (by decide) (by decide) ?_
    refine Z_iret dX3_told_12 rfl ?_
    refine ⟨rfl, rfl, ?_⟩; omega
  · refine Z_iload_n (n := 5) dX3_told_4 rfl rfl ?_
    refine Z_bipush (n := 7) dX3_told_5 rfl (by decide) (by decide) ?_
    refine Z_icmp_le (n := 10) (t := 13) dX3_told_7 rfl (by decide) (fun c7 => ?_) (fun c7 => ?_)
    · refine Z_iload_n (n := 14) dX3_told_13 rfl rfl ?_
      refine Z_iconst (n := 15) dX3_told_14 rfl (by decide) ?_
      refine Z_icmp_ge (n := 18) (t := 28) dX3_told_15 rfl (by decide) (fun c15 => ?_) (fun c15 => ?_)
      · refine Z_iload_n (n := 29) dX3_told_28 rfl rfl ?_
        refine Z_bipush (n := 31) dX3_told_29 rfl (by decide) (by decide) ?_
        refine Z_icmp_ge (n := 34) (t := 46) dX3_told_31 rfl (by decide) (fun c31 => ?_) (fun c31 => ?_)
        · refine Z_iload_n (n := 47) dX3_told_46 rfl rfl ?_
          refine Z_bipush (n := 49) dX3_told_47 rfl (by decide) (by decide) ?_
          refine Z_icmp_ne (n := 52) (t := 59) dX3_told_49 rfl (by decide) (fun c49 => ?_) (fun c49 => ?_)
          · refine Z_aload_n (n := 60) dX3_told_59 rfl rfl ?_
            refine Z_getO (n := 63) dX3_told_60 rfl ffX3_25 (by first | rfl | exact nS0 (nA_at (by omega) (by omega))) (by first | rfl | exact nS0 (nA_at (by omega) (by omega))) ?_
            refine Z_callVi (n := 66) [] _ dX3_told_63 rfl cwX3_194 rfl rfl (by first | rfl | exact nS0 (nA_at (by omega) (by omega))) (Nat.le_of_ble_eq_true rfl) (by refine ⟨?_, ?_, ?_, ?_⟩ <;> exact Nat.le_of_ble_eq_true rfl) (fun _ h => h) (zX2_limit  ) ?_
            intro x63 M63 J63 z63 f63 q63
            obtain ⟨e63_1, e63_2, h63⟩ := q63
            replace e63_1 := e63_1.symm; subst e63_1
            replace e63_2 := e63_2.symm; subst e63_2
            refine Z_iret dX3_told_66 rfl ?_
            first | exact ⟨rfl, rfl, Or.inr (Or.inr (Or.inr (Or.inl ⟨by omega, h53⟩)))⟩ | exact ⟨rfl, rfl, Or.inr (Or.inr (Or.inr (Or.inr ⟨by omega, h63⟩)))⟩
          · refine Z_aload_n (n := 53) dX3_told_52 rfl rfl ?_
            refine Z_callVi (n := 56) [] _ dX3_told_53 rfl cwX3_98 rfl rfl (by first | rfl | exact nS0 (nA_at (by omega) (by omega))) (Nat.le_of_ble_eq_true rfl) (by refine ⟨?_, ?_, ?_, ?_⟩ <;> exact Nat.le_of_ble_eq_true rfl) (fun _ h => h) (zX3_heldCount  ) ?_
            intro x53 M53 J53 z53 f53 q53
            obtain ⟨e53_1, e53_2, h53⟩ := q53
            replace e53_1 := e53_1.symm; subst e53_1
            replace e53_2 := e53_2.symm; subst e53_2
            refine Z_goto (t := 66) dX3_told_56 (by decide) ?_
            refine Z_iret dX3_told_66 rfl ?_
            first | exact ⟨rfl, rfl, Or.inr (Or.inr (Or.inr (Or.inl ⟨by omega, h53⟩)))⟩ | exact ⟨rfl, rfl, Or.inr (Or.inr (Or.inr (Or.inr ⟨by omega, h63⟩)))⟩
        · refine Z_aload_n (n := 35) dX3_told_34 rfl rfl ?_
          refine Z_getA (n := 38) dX3_told_35 rfl ffX3_11 (by first | rfl | exact nS0 (nA_at (by omega) (by omega))) (by first | rfl | exact nS0 (nA_at (by omega) (by omega))) ?_
          refine Z_iload_n (n := 39) dX3_told_38 rfl rfl ?_
          refine Z_iconst (n := 40) dX3_told_39 rfl (by decide) ?_
          refine Z_isub (n := 41) dX3_told_40 rfl (by omega) ?_
          refine Z_aald (n := 42) dX3_told_41 rfl (by first | rfl | exact nS0 (nA_at (by omega) (by omega))) (by decide) (by omega) (by omega) (nA_P (by omega) (by omega)) ?_
          refine Z_callVi (n := 45) [] _ dX3_told_42 rfl cwX3_181 rfl rfl (by first | rfl | exact nS0 (nA_at (by omega) (by omega))) (Nat.le_of_ble_eq_true rfl) (by refine ⟨?_, ?_, ?_, ?_⟩ <;> exact Nat.le_of_ble_eq_true rfl) (fun _ h => h) (zX0_outputCount  (by exact nA_at (by omega) (by omega))) ?_
          intro x42 M42 J42 z42 f42 q42
          obtain ⟨e42_1, e42_2, h42⟩ := q42
          replace e42_1 := e42_1.symm; subst e42_1
          replace e42_2 := e42_2.symm; subst e42_2
          refine Z_iret dX3_told_45 rfl ?_
          exact ⟨rfl, rfl, Or.inr (Or.inr (Or.inl ⟨by omega, by omega, h42⟩))⟩
      · refine Z_aload_n (n := 19) dX3_told_18 rfl rfl ?_
        refine Z_getA (n := 22) dX3_told_19 rfl ffX3_11 (by first | rfl | exact nS0 (nA_at (by omega) (by omega))) (by first | rfl | exact nS0 (nA_at (by omega) (by omega))) ?_
        refine Z_iload_n (n := 23) dX3_told_22 rfl rfl ?_
        refine Z_aald (n := 24) dX3_told_23 rfl (by first | rfl | exact nS0 (nA_at (by omega) (by omega))) (by decide) (by omega) (by omega) (nA_P (by omega) (by omega)) ?_
        refine Z_callVi (n := 27) [] _ dX3_told_24 rfl cwX3_191 rfl rfl (by first | rfl | exact nS0 (nA_at (by omega) (by omega))) (Nat.le_of_ble_eq_true rfl) (by refine ⟨?_, ?_, ?_, ?_⟩ <;> exact Nat.le_of_ble_eq_true rfl) (fun _ h => h) (zX0_gateCount  (by exact nA_at (by omega) (by omega))) ?_
        intro x24 M24 J24 z24 f24 q24
        obtain ⟨e24_1, e24_2, h24⟩ := q24
        replace e24_1 := e24_1.symm; subst e24_1
        replace e24_2 := e24_2.symm; subst e24_2
        refine Z_iret dX3_told_27 rfl ?_
        exact ⟨rfl, rfl, Or.inr (Or.inl ⟨by omega, by omega, h24⟩)⟩
    · refine Z_bipush (n := 12) dX3_told_10 rfl (by decide) (by decide) ?_
      refine Z_iret dX3_told_12 rfl ?_
      refine ⟨rfl, rfl, ?_⟩; omega
set_option maxRecDepth 20000 in
theorem zX3_notePart {G : tl_G} {M : zM} {J : zJ} {o v : Int} (h0 : -1 ≤ v) (h1 : v ≤ 251) : ZN G yX3_notePart mX3_notePart 2 k0 [vR 0, vI o, vI v] F1 M J (qV (fun M' J' => J' = J)) := by
  refine ZN_of (L := [_, _, _]) (by decide) rfl rfl (Nat.le_of_ble_eq_true rfl) rfl (fun hav => ?_)
  refine Z_iload_n (n := 1) dX3_notePart_0 rfl rfl ?_
  refine Z_iconst (n := 2) dX3_notePart_1 rfl (by decide) ?_
  refine Z_icmp_eq (n := 5) (t := 31) dX3_notePart_2 rfl (by decide) (fun c2 => ?_) (fun c2 => ?_)
  · refine Z_vret dX3_notePart_31 rfl ?_
    rfl
  · refine Z_iload_n (n := 6) dX3_notePart_5 rfl rfl ?_
    refine Z_if_eq (n := 9) (t := 31) dX3_notePart_6 rfl (by decide) (fun c6 => ?_) (fun c6 => ?_)
    · refine Z_vret dX3_notePart_31 rfl ?_
      rfl
    · refine Z_aload_n (n := 10) dX3_notePart_9 rfl rfl ?_
      refine Z_iload_n (n := 11) dX3_notePart_10 rfl rfl ?_
      refine Z_putI (n := 14) (ki := 9) dX3_notePart_11 rfl ffX3_49 rfl (by decide) (by first | rfl | exact nS0 (nA_at (by omega) (by omega))) rfl (by first | exact (show zI o from hav (vI o) (by simp)).1 | exact (show zI o from hav (vI o) (by simp)).2) (by first | exact (show zI o from hav (vI o) (by simp)).1 | exact (show zI o from hav (vI o) (by simp)).2) (by decide) ?_
      refine Z_aload_n (n := 15) dX3_notePart_14 rfl rfl ?_
      refine Z_aload_n (n := 16) dX3_notePart_15 rfl rfl ?_
      refine Z_getO (n := 19) dX3_notePart_16 rfl ffX3_25 (by first | rfl | exact nS0 (nA_at (by omega) (by omega))) (by first | rfl | exact nS0 (nA_at (by omega) (by omega))) ?_
      refine Z_iload_n (n := 20) dX3_notePart_19 rfl rfl ?_
      refine Z_iconst (n := 21) dX3_notePart_20 rfl (by decide) ?_
      refine Z_aload_n (n := 22) dX3_notePart_21 rfl rfl ?_
      refine Z_getO (n := 25) dX3_notePart_22 rfl ffX3_18 (by first | rfl | exact nS0 (nA_at (by omega) (by omega))) (by first | rfl | exact nS0 (nA_at (by omega) (by omega))) ?_
      refine Z_callVi (n := 28) [_, _, _] _ dX3_notePart_25 rfl cwX3_175 rfl rfl (by first | rfl | exact nS0 (nA_at (by omega) (by omega))) (Nat.le_of_ble_eq_true rfl) (by refine ⟨?_, ?_, ?_, ?_⟩ <;> exact Nat.le_of_ble_eq_true rfl) (fun _ _ => trivial) (zX2_leastFor  (by first | assumption | omega | decide) (by first | assumption | omega | decide)) ?_
      intro x25 M25 J25 z25 f25 q25
      obtain ⟨e25_1, e25_2⟩ := q25
      replace e25_1 := e25_1.symm; subst e25_1
      replace e25_2 := e25_2.symm; subst e25_2
      refine Z_putI (n := 31) (ki := 10) dX3_notePart_28 rfl ffX3_52 rfl (by decide) (by first | rfl | exact nS0 (nA_at (by omega) (by omega))) rfl (by first | exact z25.1 | exact z25.2) (by first | exact z25.1 | exact z25.2) (by decide) ?_
      refine Z_vret dX3_notePart_31 rfl ?_
      rfl
