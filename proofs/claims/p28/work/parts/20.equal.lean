/-! ===== the class: equal ===== -/
set_option maxRecDepth 20000 in
theorem zX3_equal {G : tl_G} {M : zM} {J : zJ} {net oth : Int} (hc : cI M) : ZN G yX3_equal mX3_equal 14 kPub [vR 0, vI net, vI oth] F1 M J (qI (fun x M' J' => J' = J ∧ cI M' ∧ (noOut M → (((net < 0 ∨ 3 ≤ net ∨ oth < 0 ∨ 3 ≤ oth) ∧ x = -1) ∨ (0 ≤ net ∧ net < 3 ∧ 0 ≤ oth ∧ oth < 3 ∧ x = 1))))) := by
  refine ZN_of (L := [_, _, _, _, _, _, _, _]) (by decide) rfl rfl (Nat.le_of_ble_eq_true rfl) rfl (fun hav => ?_)
  refine Z_iload_n (n := 1) dX3_equal_0 rfl rfl ?_
  refine Z_callSi (n := 4) [_] _ dX3_equal_1 rfl cwX3_62 rfl rfl (Nat.le_of_ble_eq_true rfl) (by refine ⟨?_, ?_, ?_, ?_⟩ <;> exact Nat.le_of_ble_eq_true rfl) (fun _ _ => trivial) (zX3_isNet  ) ?_
  intro x1 M1 J1 z1 f1 q1
  obtain ⟨e1_1, e1_2, h1⟩ := q1
  replace e1_1 := e1_1.symm; subst e1_1
  replace e1_2 := e1_2.symm; subst e1_2
  refine Z_if_eq (n := 7) (t := 14) dX3_equal_4 rfl (by decide) (fun c4 => ?_) (fun c4 => ?_)
  · refine Z_iconst (n := 15) dX3_equal_14 rfl (by decide) ?_
    refine Z_iret dX3_equal_15 rfl ?_
    exact ⟨rfl, hc, fun _ => Or.inl ⟨by omega, rfl⟩⟩
  · refine Z_iload_n (n := 8) dX3_equal_7 rfl rfl ?_
    refine Z_callSi (n := 11) [_] _ dX3_equal_8 rfl cwX3_62 rfl rfl (Nat.le_of_ble_eq_true rfl) (by refine ⟨?_, ?_, ?_, ?_⟩ <;> exact Nat.le_of_ble_eq_true rfl) (fun _ _ => trivial) (zX3_isNet  ) ?_
    intro x8 M8 J8 z8 f8 q8
    obtain ⟨e8_1, e8_2, h8⟩ := q8
    replace e8_1 := e8_1.symm; subst e8_1
    replace e8_2 := e8_2.symm; subst e8_2
    refine Z_if_ne (n := 14) (t := 16) dX3_equal_11 rfl (by decide) (fun c11 => ?_) (fun c11 => ?_)
    · refine Z_aload_n (n := 17) dX3_equal_16 rfl rfl ?_
      refine Z_getA (n := 20) dX3_equal_17 rfl ffX3_11 (by first | rfl | exact nS0 (nA_at (by omega) (by omega))) (by first | rfl | exact nS0 (nA_at (by omega) (by omega))) ?_
      refine Z_iload_n (n := 21) dX3_equal_20 rfl rfl ?_
      refine Z_aald (n := 22) dX3_equal_21 rfl (by first | rfl | exact nS0 (nA_at (by omega) (by omega))) (by decide) (by omega) (by omega) (nA_P (by omega) (by omega)) ?_
      refine Z_callVi (n := 25) [] _ dX3_equal_22 rfl cwX3_181 rfl rfl (by first | rfl | exact nS0 (nA_at (by omega) (by omega))) (Nat.le_of_ble_eq_true rfl) (by refine ⟨?_, ?_, ?_, ?_⟩ <;> exact Nat.le_of_ble_eq_true rfl) (fun _ _ => trivial) (zX0_outputCount  (by exact nA_at (by omega) (by omega))) ?_
      intro x22 M22 J22 z22 f22 q22
      obtain ⟨e22_1, e22_2, h22⟩ := q22
      replace e22_1 := e22_1.symm; subst e22_1
      replace e22_2 := e22_2.symm; subst e22_2
      refine Z_istore_n (L' := [_, _, _, _, _, _, _, _]) (n := 26) dX3_equal_25 rfl (by decide) rfl rfl ?_
      refine Z_iload_n (n := 27) dX3_equal_26 rfl rfl ?_
      refine Z_aload_n (n := 28) dX3_equal_27 rfl rfl ?_
      refine Z_getA (n := 31) dX3_equal_28 rfl ffX3_11 (by first | rfl | exact nS0 (nA_at (by omega) (by omega))) (by first | rfl | exact nS0 (nA_at (by omega) (by omega))) ?_
      refine Z_iload_n (n := 32) dX3_equal_31 rfl rfl ?_
      refine Z_aald (n := 33) dX3_equal_32 rfl (by first | rfl | exact nS0 (nA_at (by omega) (by omega))) (by decide) (by omega) (by omega) (nA_P (by omega) (by omega)) ?_
      refine Z_callVi (n := 36) [] _ dX3_equal_33 rfl cwX3_181 rfl rfl (by first | rfl | exact nS0 (nA_at (by omega) (by omega))) (Nat.le_of_ble_eq_true rfl) (by refine ⟨?_, ?_, ?_, ?_⟩ <;> exact Nat.le_of_ble_eq_true rfl) (fun _ _ => trivial) (zX0_outputCount  (by exact nA_at (by omega) (by omega))) ?_
      intro x33 M33 J33 z33 f33 q33
      obtain ⟨e33_1, e33_2, h33⟩ := q33
      replace e33_1 := e33_1.symm; subst e33_1
      replace e33_2 := e33_2.symm; subst e33_2
      refine Z_icmp_eq (n := 39) (t := 42) dX3_equal_36 rfl (by decide) (fun c36 => ?_) (fun c36 => ?_)
      · refine Z_rg (nA net) 5 (nTo (nA_at (by omega) (by omega))) (fun g5 g5b => ?_)
        refine Z_iload_n (n := 43) dX3_equal_42 rfl rfl ?_
        refine Z_if_le (n := 46) (t := 50) dX3_equal_43 rfl (by decide) (fun c43 => ?_) (fun c43 => ?_)
        · 
          refine Z_iconst (n := 51) dX3_equal_50 rfl (by decide) ?_
          refine Z_istore (L' := [_, _, _, _, _, _, _, _]) (n := 53) dX3_equal_51 rfl (by decide) rfl rfl ?_
          refine Z_iconst (n := 54) dX3_equal_53 rfl (by decide) ?_
          refine Z_istore (L' := [_, _, _, _, _, _, _, _]) (n := 56) dX3_equal_54 rfl (by decide) rfl rfl ?_
          have lp56 : ∀ (N56 : Nat) (ap o : Int) (M56 : zM) (J56 : zJ), ((x22 - o).toNat) < N56 → (J56 = J) → (-1 ≤ ap) → (ap ≤ 251) → (0 ≤ o) → (o ≤ x22) → (pI M56) → (M56 4 = M 4) → (x22 = 0 → ap = 0) → TZ G mX3_equal (tl_rm 14 0 0) 0 0 kPub M J 56 [some (vR 0), some (vI net), some (vI oth), some (vI x22), some (vI ap), some (vI o), none, none] [] F1 M56 J56 (ZM G (zPost G kPub F1 M J (qI (fun x M' J' => J' = J ∧ cI M' ∧ (noOut M → (((net < 0 ∨ 3 ≤ net ∨ oth < 0 ∨ 3 ≤ oth) ∧ x = -1) ∨ (0 ≤ net ∧ net < 3 ∧ 0 ≤ oth ∧ oth < 3 ∧ x = 1)))))) 0 0) := by
            intro N56
            induction N56 with
            | zero => intro ap o M56 J56 hN; omega
            | succ N56 ih56 =>
              intro ap o M56 J56 hN56 i56_0 i56_1 i56_2 i56_3 i56_4 i56_5 i56_6 i56_7
              refine Z_iload (n := 58) dX3_equal_56 rfl rfl ?_
              refine Z_iload_n (n := 59) dX3_equal_58 rfl rfl ?_
              refine Z_icmp_ge (n := 62) (t := 132) dX3_equal_59 rfl (by decide) (fun c59 => ?_) (fun c59 => ?_)
              · refine Z_aload_n (n := 133) dX3_equal_132 rfl rfl ?_
                refine Z_callVv (n := 136) [] _ dX3_equal_133 rfl cwX3_188 rfl rfl (by first | rfl | exact nS0 (nA_at (by omega) (by omega))) (Nat.le_of_ble_eq_true rfl) (by refine ⟨?_, ?_, ?_, ?_⟩ <;> exact Nat.le_of_ble_eq_true rfl) (fun _ h => h) (zX3_endSteps  (by exact fun h => by unfold kPub at h; omega) (by exact fun h => by unfold kPub at h; omega)) ?_
                intro M133 J133 f133 q133
                obtain ⟨e133_1, e133_2⟩ := q133
                replace e133_1 := e133_1.symm; subst e133_1
                replace e133_2 := e133_2.symm; subst e133_2
                refine Z_iload (n := 138) dX3_equal_136 rfl rfl ?_
                refine Z_iconst (n := 139) dX3_equal_138 rfl (by decide) ?_
                refine Z_icmp_ne (n := 142) (t := 147) dX3_equal_139 rfl (by decide) (fun c139 => ?_) (fun c139 => ?_)
                · refine Z_iload (n := 149) dX3_equal_147 rfl rfl ?_
                  refine Z_if_ne (n := 152) (t := 156) dX3_equal_149 rfl (by decide) (fun c149 => ?_) (fun c149 => ?_)
                  · refine Z_iconst (n := 157) dX3_equal_156 rfl (by decide) ?_
                    refine Z_fr (fun frR => ?_)
                    refine Z_iret dX3_equal_157 rfl ?_
                    have hfz : ∀ a : Nat, a ≠ 13 → a ≠ 0 → fillz (uz M56 0 7 0) 13 40 (-1) a = M56 a := fun a h1 h2 => by rw [fillz_o h1, uz_o h2]
                    exact ⟨i56_0, cI_mk hc frR (pI_fr i56_5 (hfz 5 (by decide) (by decide)) (hfz 6 (by decide) (by decide)) (hfz 10 (by decide) (by decide)) (hfz 11 (by decide) (by decide))) (ordOK_fr hc.2.1 ((hfz 4 (by decide) (by decide)).trans i56_6)), fun q => by have e0 := q net (by omega) (by omega); have e1 := i56_7 (by omega); omega⟩
                  · refine Z_iconst (n := 153) dX3_equal_152 rfl (by decide) ?_
                    refine Z_goto (t := 157) dX3_equal_153 (by decide) ?_
                    refine Z_fr (fun frR => ?_)
                    refine Z_iret dX3_equal_157 rfl ?_
                    have hfz : ∀ a : Nat, a ≠ 13 → a ≠ 0 → fillz (uz M56 0 7 0) 13 40 (-1) a = M56 a := fun a h1 h2 => by rw [fillz_o h1, uz_o h2]
                    exact ⟨i56_0, cI_mk hc frR (pI_fr i56_5 (hfz 5 (by decide) (by decide)) (hfz 6 (by decide) (by decide)) (hfz 10 (by decide) (by decide)) (hfz 11 (by decide) (by decide))) (ordOK_fr hc.2.1 ((hfz 4 (by decide) (by decide)).trans i56_6)), fun q => by have e0 := q net (by omega) (by omega); have e1 := i56_7 (by omega); omega⟩
                · refine Z_bipush (n := 144) dX3_equal_142 rfl (by decide) (by decide) ?_
                  refine Z_goto (t := 157) dX3_equal_144 (by decide) ?_
                  refine Z_fr (fun frR => ?_)
                  refine Z_iret dX3_equal_157 rfl ?_
                  have hfz : ∀ a : Nat, a ≠ 13 → a ≠ 0 → fillz (uz M56 0 7 0) 13 40 (-1) a = M56 a := fun a h1 h2 => by rw [fillz_o h1, uz_o h2]
                  exact ⟨i56_0, cI_mk hc frR (pI_fr i56_5 (hfz 5 (by decide) (by decide)) (hfz 6 (by decide) (by decide)) (hfz 10 (by decide) (by decide)) (hfz 11 (by decide) (by decide))) (ordOK_fr hc.2.1 ((hfz 4 (by decide) (by decide)).trans i56_6)), fun q => by have e0 := q net (by omega) (by omega); have e1 := i56_7 (by omega); omega⟩
              · refine Z_iload (n := 64) dX3_equal_62 rfl rfl ?_
                refine Z_if_ne (n := 67) (t := 132) dX3_equal_64 rfl (by decide) (fun c64 => ?_) (fun c64 => ?_)
                · refine Z_aload_n (n := 133) dX3_equal_132 rfl rfl ?_
                  refine Z_callVv (n := 136) [] _ dX3_equal_133 rfl cwX3_188 rfl rfl (by first | rfl | exact nS0 (nA_at (by omega) (by omega))) (Nat.le_of_ble_eq_true rfl) (by refine ⟨?_, ?_, ?_, ?_⟩ <;> exact Nat.le_of_ble_eq_true rfl) (fun _ h => h) (zX3_endSteps  (by exact fun h => by unfold kPub at h; omega) (by exact fun h => by unfold kPub at h; omega)) ?_
                  intro M133 J133 f133 q133
                  obtain ⟨e133_1, e133_2⟩ := q133
                  replace e133_1 := e133_1.symm; subst e133_1
                  replace e133_2 := e133_2.symm; subst e133_2
                  refine Z_iload (n := 138) dX3_equal_136 rfl rfl ?_
                  refine Z_iconst (n := 139) dX3_equal_138 rfl (by decide) ?_
                  refine Z_icmp_ne (n := 142) (t := 147) dX3_equal_139 rfl (by decide) (fun c139 => ?_) (fun c139 => ?_)
                  · refine Z_iload (n := 149) dX3_equal_147 rfl rfl ?_
                    refine Z_if_ne (n := 152) (t := 156) dX3_equal_149 rfl (by decide) (fun c149 => ?_) (fun c149 => ?_)
                    · refine Z_iconst (n := 157) dX3_equal_156 rfl (by decide) ?_
                      refine Z_fr (fun frR => ?_)
                      refine Z_iret dX3_equal_157 rfl ?_
                      have hfz : ∀ a : Nat, a ≠ 13 → a ≠ 0 → fillz (uz M56 0 7 0) 13 40 (-1) a = M56 a := fun a h1 h2 => by rw [fillz_o h1, uz_o h2]
                      exact ⟨i56_0, cI_mk hc frR (pI_fr i56_5 (hfz 5 (by decide) (by decide)) (hfz 6 (by decide) (by decide)) (hfz 10 (by decide) (by decide)) (hfz 11 (by decide) (by decide))) (ordOK_fr hc.2.1 ((hfz 4 (by decide) (by decide)).trans i56_6)), fun q => by have e0 := q net (by omega) (by omega); have e1 := i56_7 (by omega); omega⟩
                    · refine Z_iconst (n := 153) dX3_equal_152 rfl (by decide) ?_
                      refine Z_goto (t := 157) dX3_equal_153 (by decide) ?_
                      refine Z_fr (fun frR => ?_)
                      refine Z_iret dX3_equal_157 rfl ?_
                      have hfz : ∀ a : Nat, a ≠ 13 → a ≠ 0 → fillz (uz M56 0 7 0) 13 40 (-1) a = M56 a := fun a h1 h2 => by rw [fillz_o h1, uz_o h2]
                      exact ⟨i56_0, cI_mk hc frR (pI_fr i56_5 (hfz 5 (by decide) (by decide)) (hfz 6 (by decide) (by decide)) (hfz 10 (by decide) (by decide)) (hfz 11 (by decide) (by decide))) (ordOK_fr hc.2.1 ((hfz 4 (by decide) (by decide)).trans i56_6)), fun q => by have e0 := q net (by omega) (by omega); have e1 := i56_7 (by omega); omega⟩
                  · refine Z_bipush (n := 144) dX3_equal_142 rfl (by decide) (by decide) ?_
                    refine Z_goto (t := 157) dX3_equal_144 (by decide) ?_
                    refine Z_fr (fun frR => ?_)
                    refine Z_iret dX3_equal_157 rfl ?_
                    have hfz : ∀ a : Nat, a ≠ 13 → a ≠ 0 → fillz (uz M56 0 7 0) 13 40 (-1) a = M56 a := fun a h1 h2 => by rw [fillz_o h1, uz_o h2]
                    exact ⟨i56_0, cI_mk hc frR (pI_fr i56_5 (hfz 5 (by decide) (by decide)) (hfz 6 (by decide) (by decide)) (hfz 10 (by decide) (by decide)) (hfz 11 (by decide) (by decide))) (ordOK_fr hc.2.1 ((hfz 4 (by decide) (by decide)).trans i56_6)), fun q => by have e0 := q net (by omega) (by omega); have e1 := i56_7 (by omega); omega⟩
                · refine Z_aload_n (n := 68) dX3_equal_67 rfl rfl ?_
                  refine Z_fr (fun fr56 => ?_)
                  have hN1 : netOK M56 (nA net) := netOK_fr (cI_net hc (nA_at (by omega) (by omega))) (fr56 (nA net) (by unfold kPub nA; omega)).1 (fr56 (nA net + 1) (by unfold kPub nA; omega)).1 (fr56 (nA net + 2) (by unfold kPub nA; omega)).1 (fr56 (nA net + 3) (by unfold kPub nA; omega)).1
                  have hb1 : M56 (nA net) 5 = M (nA net) 5 := congrFun (fr56 (nA net) (by unfold kPub nA; omega)).1 5
                  have hO56 : ordOK M56 := ordOK_fr hc.2.1 i56_6
                  refine Z_aload_n (n := 69) dX3_equal_68 rfl rfl ?_
                  refine Z_getA (n := 72) dX3_equal_69 rfl ffX3_11 (by first | rfl | exact nS0 (nA_at (by omega) (by omega))) (by first | rfl | exact nS0 (nA_at (by omega) (by omega))) ?_
                  refine Z_iload_n (n := 73) dX3_equal_72 rfl rfl ?_
                  refine Z_aald (n := 74) dX3_equal_73 rfl (by first | rfl | exact nS0 (nA_at (by omega) (by omega))) (by decide) (by omega) (by omega) (nA_P (by omega) (by omega)) ?_
                  refine Z_iload (n := 76) dX3_equal_74 rfl rfl ?_
                  refine Z_callVi (n := 79) [_, _] _ dX3_equal_76 rfl cwX3_129 rfl rfl (by first | rfl | exact nS0 (nA_at (by omega) (by omega))) (Nat.le_of_ble_eq_true rfl) (by refine ⟨?_, ?_, ?_, ?_⟩ <;> exact Nat.le_of_ble_eq_true rfl) (fun a h => by unfold kPub at h; unfold kStep; omega) (zX3_building  (by exact nA_at (by omega) (by omega)) (by exact hN1) (by omega) (by omega) (by assumption) (by exact hO56)) ?_
                  intro x76 M76 J76 z76 f76 q76
                  obtain ⟨e76_1, l76, u76, pi76⟩ := q76
                  replace e76_1 := e76_1.symm; subst e76_1
                  refine Z_istore (L' := [_, _, _, _, _, _, _, _]) (n := 81) dX3_equal_79 rfl (by decide) rfl rfl ?_
                  refine Z_iload (n := 83) dX3_equal_81 rfl rfl ?_
                  refine Z_iconst (n := 84) dX3_equal_83 rfl (by decide) ?_
                  refine Z_icmp_ne (n := 87) (t := 91) dX3_equal_84 rfl (by decide) (fun c84 => ?_) (fun c84 => ?_)
                  · refine Z_aload_n (n := 92) dX3_equal_91 rfl rfl ?_
                    refine Z_fr (fun fr76 => ?_)
                    have hN2 : netOK M76 (nA oth) := netOK_fr (cI_net hc (nA_at (by omega) (by omega))) (fr76 (nA oth) (by unfold kPub nA; omega)).1 (fr76 (nA oth + 1) (by unfold kPub nA; omega)).1 (fr76 (nA oth + 2) (by unfold kPub nA; omega)).1 (fr76 (nA oth + 3) (by unfold kPub nA; omega)).1
                    have hb2 : M76 (nA oth) 5 = M (nA oth) 5 := congrFun (fr76 (nA oth) (by unfold kPub nA; omega)).1 5
                    have hO76 : ordOK M76 := ordOK_fr hO56 (f76 4 (by decide)).1
                    refine Z_aload_n (n := 93) dX3_equal_92 rfl rfl ?_
                    refine Z_getA (n := 96) dX3_equal_93 rfl ffX3_11 (by first | rfl | exact nS0 (nA_at (by omega) (by omega))) (by first | rfl | exact nS0 (nA_at (by omega) (by omega))) ?_
                    refine Z_iload_n (n := 97) dX3_equal_96 rfl rfl ?_
                    refine Z_aald (n := 98) dX3_equal_97 rfl (by first | rfl | exact nS0 (nA_at (by omega) (by omega))) (by decide) (by omega) (by omega) (nA_P (by omega) (by omega)) ?_
                    refine Z_iload (n := 100) dX3_equal_98 rfl rfl ?_
                    refine Z_callVi (n := 103) [_, _] _ dX3_equal_100 rfl cwX3_129 rfl rfl (by first | rfl | exact nS0 (nA_at (by omega) (by omega))) (Nat.le_of_ble_eq_true rfl) (by refine ⟨?_, ?_, ?_, ?_⟩ <;> exact Nat.le_of_ble_eq_true rfl) (fun a h => by unfold kPub at h; unfold kStep; omega) (zX3_building  (by exact nA_at (by omega) (by omega)) (by exact hN2) (by omega) (by omega) (by assumption) (by exact hO76)) ?_
                    intro x100 M100 J100 z100 f100 q100
                    obtain ⟨e100_1, l100, u100, pi100⟩ := q100
                    replace e100_1 := e100_1.symm; subst e100_1
                    refine Z_istore (L' := [_, _, _, _, _, _, _, _]) (n := 105) dX3_equal_103 rfl (by decide) rfl rfl ?_
                    refine Z_aload_n (n := 106) dX3_equal_105 rfl rfl ?_
                    refine Z_bipush (n := 108) dX3_equal_106 rfl (by decide) (by decide) ?_
                    refine Z_iload (n := 110) dX3_equal_108 rfl rfl ?_
                    refine Z_iload (n := 112) dX3_equal_110 rfl rfl ?_
                    refine Z_iconst (n := 113) dX3_equal_112 rfl (by decide) ?_
                    refine Z_callVi (n := 116) [_, _, _, _] _ dX3_equal_113 rfl cwX3_142 rfl rfl (by first | rfl | exact nS0 (nA_at (by omega) (by omega))) (Nat.le_of_ble_eq_true rfl) (by refine ⟨?_, ?_, ?_, ?_⟩ <;> exact Nat.le_of_ble_eq_true rfl) (fun a h => by unfold kPub at h; unfold kStep; omega) (zX3_kindStep  (by omega) (by omega) (by omega) (by omega) (by omega) (by omega) (by omega) (by omega) (by assumption)) ?_
                    intro x113 M113 J113 z113 f113 q113
                    obtain ⟨e113_1, l113, u113, pi113, -⟩ := q113
                    replace e113_1 := e113_1.symm; subst e113_1
                    refine Z_istore (L' := [_, _, _, _, _, _, _, _]) (n := 118) dX3_equal_116 rfl (by decide) rfl rfl ?_
                    refine Z_aload_n (n := 119) dX3_equal_118 rfl rfl ?_
                    refine Z_iload (n := 121) dX3_equal_119 rfl rfl ?_
                    refine Z_iload (n := 123) dX3_equal_121 rfl rfl ?_
                    refine Z_callVv (n := 126) [_, _] _ dX3_equal_123 rfl cwX3_184 rfl rfl (by first | rfl | exact nS0 (nA_at (by omega) (by omega))) (Nat.le_of_ble_eq_true rfl) (by refine ⟨?_, ?_, ?_, ?_⟩ <;> exact Nat.le_of_ble_eq_true rfl) (fun a h => by unfold kPub at h; unfold k0; omega) (zX3_notePart  (by omega) (by omega)) ?_
                    intro M123 J123 f123 q123
                    have e123_1 := q123
                    replace e123_1 := e123_1.symm; subst e123_1
                    refine Z_iinc (L' := [_, _, _, _, _, _, _, _]) (n := 129) dX3_equal_126 rfl rfl (by decide) rfl rfl (by omega) rfl ?_
                    refine Z_goto (t := 56) dX3_equal_129 (by decide) ?_
                    refine Z_loc (L' := [some _, some _, some _, some _, some _, some _, none, none]) (lsub_same (lsub_same (lsub_same (lsub_same (lsub_same (lsub_same (lsub_none (lsub_none lsub_nil)))))))) ?_
                    exact ih56 _ _ _ _ (by omega) (by first | rfl | assumption) (by first | assumption | omega | decide) (by first | assumption | omega | decide) (by first | assumption | omega | decide) (by first | assumption | omega | decide) (by first | exact pI_fr hc.1 (uz_o (by decide)) (uz_o (by decide)) (uz_o (by decide)) (uz_o (by decide)) | exact hc.1 | exact pI_fr pi113 (f123 5 (by decide)).1 (f123 6 (by decide)).1 (f123 10 (by decide)).1 (f123 11 (by decide)).1) (by first | exact uz_o (by decide) | rfl | exact ((f123 4 (by decide)).1).trans (((f113 4 (by decide)).1).trans (((f100 4 (by decide)).1).trans (((f76 4 (by decide)).1).trans i56_6))) | exact ((f123 4 (by decide)).1).trans (((f113 4 (by decide)).1).trans (((f76 4 (by decide)).1).trans i56_6))) (by first | exact fun _ => rfl | exact fun q => by omega)
                  · refine Z_iconst (n := 88) dX3_equal_87 rfl (by decide) ?_
                    refine Z_goto (t := 103) dX3_equal_88 (by decide) ?_
                    refine Z_istore (L' := [_, _, _, _, _, _, _, _]) (n := 105) dX3_equal_103 rfl (by decide) rfl rfl ?_
                    refine Z_aload_n (n := 106) dX3_equal_105 rfl rfl ?_
                    refine Z_bipush (n := 108) dX3_equal_106 rfl (by decide) (by decide) ?_
                    refine Z_iload (n := 110) dX3_equal_108 rfl rfl ?_
                    refine Z_iload (n := 112) dX3_equal_110 rfl rfl ?_
                    refine Z_iconst (n := 113) dX3_equal_112 rfl (by decide) ?_
                    refine Z_callVi (n := 116) [_, _, _, _] _ dX3_equal_113 rfl cwX3_142 rfl rfl (by first | rfl | exact nS0 (nA_at (by omega) (by omega))) (Nat.le_of_ble_eq_true rfl) (by refine ⟨?_, ?_, ?_, ?_⟩ <;> exact Nat.le_of_ble_eq_true rfl) (fun a h => by unfold kPub at h; unfold kStep; omega) (zX3_kindStep  (by omega) (by omega) (by omega) (by omega) (by omega) (by omega) (by omega) (by omega) (by assumption)) ?_
                    intro x113 M113 J113 z113 f113 q113
                    obtain ⟨e113_1, l113, u113, pi113, -⟩ := q113
                    replace e113_1 := e113_1.symm; subst e113_1
                    refine Z_istore (L' := [_, _, _, _, _, _, _, _]) (n := 118) dX3_equal_116 rfl (by decide) rfl rfl ?_
                    refine Z_aload_n (n := 119) dX3_equal_118 rfl rfl ?_
                    refine Z_iload (n := 121) dX3_equal_119 rfl rfl ?_
                    refine Z_iload (n := 123) dX3_equal_121 rfl rfl ?_
                    refine Z_callVv (n := 126) [_, _] _ dX3_equal_123 rfl cwX3_184 rfl rfl (by first | rfl | exact nS0 (nA_at (by omega) (by omega))) (Nat.le_of_ble_eq_true rfl) (by refine ⟨?_, ?_, ?_, ?_⟩ <;> exact Nat.le_of_ble_eq_true rfl) (fun a h => by unfold kPub at h; unfold k0; omega) (zX3_notePart  (by omega) (by omega)) ?_
                    intro M123 J123 f123 q123
                    have e123_1 := q123
                    replace e123_1 := e123_1.symm; subst e123_1
                    refine Z_iinc (L' := [_, _, _, _, _, _, _, _]) (n := 129) dX3_equal_126 rfl rfl (by decide) rfl rfl (by omega) rfl ?_
                    refine Z_goto (t := 56) dX3_equal_129 (by decide) ?_
                    refine Z_loc (L' := [some _, some _, some _, some _, some _, some _, none, none]) (lsub_same (lsub_same (lsub_same (lsub_same (lsub_same (lsub_same (lsub_none (lsub_none lsub_nil)))))))) ?_
                    exact ih56 _ _ _ _ (by omega) (by first | rfl | assumption) (by first | assumption | omega | decide) (by first | assumption | omega | decide) (by first | assumption | omega | decide) (by first | assumption | omega | decide) (by first | exact pI_fr hc.1 (uz_o (by decide)) (uz_o (by decide)) (uz_o (by decide)) (uz_o (by decide)) | exact hc.1 | exact pI_fr pi113 (f123 5 (by decide)).1 (f123 6 (by decide)).1 (f123 10 (by decide)).1 (f123 11 (by decide)).1) (by first | exact uz_o (by decide) | rfl | exact ((f123 4 (by decide)).1).trans (((f113 4 (by decide)).1).trans (((f100 4 (by decide)).1).trans (((f76 4 (by decide)).1).trans i56_6))) | exact ((f123 4 (by decide)).1).trans (((f113 4 (by decide)).1).trans (((f76 4 (by decide)).1).trans i56_6))) (by first | exact fun _ => rfl | exact fun q => by omega)
          refine Z_loc (L' := [some _, some _, some _, some _, some _, some _, none, none]) (lsub_same (lsub_same (lsub_same (lsub_same (lsub_same (lsub_same (lsub_none (lsub_none lsub_nil)))))))) ?_
          exact lp56 _ _ _ _ _ (Nat.lt_succ_self _) (by first | rfl | assumption) (by first | assumption | omega | decide) (by first | assumption | omega | decide) (by first | assumption | omega | decide) (by first | assumption | omega | decide) (by first | exact pI_fr hc.1 (uz_o (by decide)) (uz_o (by decide)) (uz_o (by decide)) (uz_o (by decide)) | exact hc.1 | exact pI_fr pi113 (f123 5 (by decide)).1 (f123 6 (by decide)).1 (f123 10 (by decide)).1 (f123 11 (by decide)).1) (by first | exact uz_o (by decide) | rfl | exact ((f123 4 (by decide)).1).trans (((f113 4 (by decide)).1).trans (((f100 4 (by decide)).1).trans (((f76 4 (by decide)).1).trans i56_6))) | exact ((f123 4 (by decide)).1).trans (((f113 4 (by decide)).1).trans (((f76 4 (by decide)).1).trans i56_6))) (by first | exact fun _ => rfl | exact fun q => by omega)
        · refine Z_aload_n (n := 47) dX3_equal_46 rfl rfl ?_
          refine Z_callVv (n := 50) [] _ dX3_equal_47 rfl cwX3_126 rfl rfl (by first | rfl | exact nS0 (nA_at (by omega) (by omega))) (Nat.le_of_ble_eq_true rfl) (by refine ⟨?_, ?_, ?_, ?_⟩ <;> exact Nat.le_of_ble_eq_true rfl) (fun _ h => h) (zX3_beginSteps  (by exact fun h => by unfold kPub at h; omega)) ?_
          intro M47 J47 f47 q47
          obtain ⟨e47_1, e47_2⟩ := q47
          replace e47_1 := e47_1.symm; subst e47_1
          replace e47_2 := e47_2.symm; subst e47_2
          
          refine Z_iconst (n := 51) dX3_equal_50 rfl (by decide) ?_
          refine Z_istore (L' := [_, _, _, _, _, _, _, _]) (n := 53) dX3_equal_51 rfl (by decide) rfl rfl ?_
          refine Z_iconst (n := 54) dX3_equal_53 rfl (by decide) ?_
          refine Z_istore (L' := [_, _, _, _, _, _, _, _]) (n := 56) dX3_equal_54 rfl (by decide) rfl rfl ?_
          have lp56 : ∀ (N56 : Nat) (ap o : Int) (M56 : zM) (J56 : zJ), ((x22 - o).toNat) < N56 → (J56 = J) → (-1 ≤ ap) → (ap ≤ 251) → (0 ≤ o) → (o ≤ x22) → (pI M56) → (M56 4 = M 4) → (x22 = 0 → ap = 0) → TZ G mX3_equal (tl_rm 14 0 0) 0 0 kPub M J 56 [some (vR 0), some (vI net), some (vI oth), some (vI x22), some (vI ap), some (vI o), none, none] [] F1 M56 J56 (ZM G (zPost G kPub F1 M J (qI (fun x M' J' => J' = J ∧ cI M' ∧ (noOut M → (((net < 0 ∨ 3 ≤ net ∨ oth < 0 ∨ 3 ≤ oth) ∧ x = -1) ∨ (0 ≤ net ∧ net < 3 ∧ 0 ≤ oth ∧ oth < 3 ∧ x = 1)))))) 0 0) := by
            intro N56
            induction N56 with
            | zero => intro ap o M56 J56 hN; omega
            | succ N56 ih56 =>
              intro ap o M56 J56 hN56 i56_0 i56_1 i56_2 i56_3 i56_4 i56_5 i56_6 i56_7
              refine Z_iload (n := 58) dX3_equal_56 rfl rfl ?_
              refine Z_iload_n (n := 59) dX3_equal_58 rfl rfl ?_
              refine Z_icmp_ge (n := 62) (t := 132) dX3_equal_59 rfl (by decide) (fun c59 => ?_) (fun c59 => ?_)
              · refine Z_aload_n (n := 133) dX3_equal_132 rfl rfl ?_
                refine Z_callVv (n := 136) [] _ dX3_equal_133 rfl cwX3_188 rfl rfl (by first | rfl | exact nS0 (nA_at (by omega) (by omega))) (Nat.le_of_ble_eq_true rfl) (by refine ⟨?_, ?_, ?_, ?_⟩ <;> exact Nat.le_of_ble_eq_true rfl) (fun _ h => h) (zX3_endSteps  (by exact fun h => by unfold kPub at h; omega) (by exact fun h => by unfold kPub at h; omega)) ?_
                intro M133 J133 f133 q133
                obtain ⟨e133_1, e133_2⟩ := q133
                replace e133_1 := e133_1.symm; subst e133_1
                replace e133_2 := e133_2.symm; subst e133_2
                refine Z_iload (n := 138) dX3_equal_136 rfl rfl ?_
                refine Z_iconst (n := 139) dX3_equal_138 rfl (by decide) ?_
                refine Z_icmp_ne (n := 142) (t := 147) dX3_equal_139 rfl (by decide) (fun c139 => ?_) (fun c139 => ?_)
                · refine Z_iload (n := 149) dX3_equal_147 rfl rfl ?_
                  refine Z_if_ne (n := 152) (t := 156) dX3_equal_149 rfl (by decide) (fun c149 => ?_) (fun c149 => ?_)
                  · refine Z_iconst (n := 157) dX3_equal_156 rfl (by decide) ?_
                    refine Z_fr (fun frR => ?_)
                    refine Z_iret dX3_equal_157 rfl ?_
                    have hfz : ∀ a : Nat, a ≠ 13 → a ≠ 0 → fillz (uz M56 0 7 0) 13 40 (-1) a = M56 a := fun a h1 h2 => by rw [fillz_o h1, uz_o h2]
                    exact ⟨i56_0, cI_mk hc frR (pI_fr i56_5 (hfz 5 (by decide) (by decide)) (hfz 6 (by decide) (by decide)) (hfz 10 (by decide) (by decide)) (hfz 11 (by decide) (by decide))) (ordOK_fr hc.2.1 ((hfz 4 (by decide) (by decide)).trans i56_6)), fun q => by have e0 := q net (by omega) (by omega); have e1 := i56_7 (by omega); omega⟩
                  · refine Z_iconst (n := 153) dX3_equal_152 rfl (by decide) ?_
                    refine Z_goto (t := 157) dX3_equal_153 (by decide) ?_
                    refine Z_fr (fun frR => ?_)
                    refine Z_iret dX3_equal_157 rfl ?_
                    have hfz : ∀ a : Nat, a ≠ 13 → a ≠ 0 → fillz (uz M56 0 7 0) 13 40 (-1) a = M56 a := fun a h1 h2 => by rw [fillz_o h1, uz_o h2]
                    exact ⟨i56_0, cI_mk hc frR (pI_fr i56_5 (hfz 5 (by decide) (by decide)) (hfz 6 (by decide) (by decide)) (hfz 10 (by decide) (by decide)) (hfz 11 (by decide) (by decide))) (ordOK_fr hc.2.1 ((hfz 4 (by decide) (by decide)).trans i56_6)), fun q => by have e0 := q net (by omega) (by omega); have e1 := i56_7 (by omega); omega⟩
                · refine Z_bipush (n := 144) dX3_equal_142 rfl (by decide) (by decide) ?_
                  refine Z_goto (t := 157) dX3_equal_144 (by decide) ?_
                  refine Z_fr (fun frR => ?_)
                  refine Z_iret dX3_equal_157 rfl ?_
                  have hfz : ∀ a : Nat, a ≠ 13 → a ≠ 0 → fillz (uz M56 0 7 0) 13 40 (-1) a = M56 a := fun a h1 h2 => by rw [fillz_o h1, uz_o h2]
                  exact ⟨i56_0, cI_mk hc frR (pI_fr i56_5 (hfz 5 (by decide) (by decide)) (hfz 6 (by decide) (by decide)) (hfz 10 (by decide) (by decide)) (hfz 11 (by decide) (by decide))) (ordOK_fr hc.2.1 ((hfz 4 (by decide) (by decide)).trans i56_6)), fun q => by have e0 := q net (by omega) (by omega); have e1 := i56_7 (by omega); omega⟩
              · refine Z_iload (n := 64) dX3_equal_62 rfl rfl ?_
                refine Z_if_ne (n := 67) (t := 132) dX3_equal_64 rfl (by decide) (fun c64 => ?_) (fun c64 => ?_)
                · refine Z_aload_n (n := 133) dX3_equal_132 rfl rfl ?_
                  refine Z_callVv (n := 136) [] _ dX3_equal_133 rfl cwX3_188 rfl rfl (by first | rfl | exact nS0 (nA_at (by omega) (by omega))) (Nat.le_of_ble_eq_true rfl) (by refine ⟨?_, ?_, ?_, ?_⟩ <;> exact Nat.le_of_ble_eq_true rfl) (fun _ h => h) (zX3_endSteps  (by exact fun h => by unfold kPub at h; omega) (by exact fun h => by unfold kPub at h; omega)) ?_
                  intro M133 J133 f133 q133
                  obtain ⟨e133_1, e133_2⟩ := q133
                  replace e133_1 := e133_1.symm; subst e133_1
                  replace e133_2 := e133_2.symm; subst e133_2
                  refine Z_iload (n := 138) dX3_equal_136 rfl rfl ?_
                  refine Z_iconst (n := 139) dX3_equal_138 rfl (by decide) ?_
                  refine Z_icmp_ne (n := 142) (t := 147) dX3_equal_139 rfl (by decide) (fun c139 => ?_) (fun c139 => ?_)
                  · refine Z_iload (n := 149) dX3_equal_147 rfl rfl ?_
                    refine Z_if_ne (n := 152) (t := 156) dX3_equal_149 rfl (by decide) (fun c149 => ?_) (fun c149 => ?_)
                    · refine Z_iconst (n := 157) dX3_equal_156 rfl (by decide) ?_
                      refine Z_fr (fun frR => ?_)
                      refine Z_iret dX3_equal_157 rfl ?_
                      have hfz : ∀ a : Nat, a ≠ 13 → a ≠ 0 → fillz (uz M56 0 7 0) 13 40 (-1) a = M56 a := fun a h1 h2 => by rw [fillz_o h1, uz_o h2]
                      exact ⟨i56_0, cI_mk hc frR (pI_fr i56_5 (hfz 5 (by decide) (by decide)) (hfz 6 (by decide) (by decide)) (hfz 10 (by decide) (by decide)) (hfz 11 (by decide) (by decide))) (ordOK_fr hc.2.1 ((hfz 4 (by decide) (by decide)).trans i56_6)), fun q => by have e0 := q net (by omega) (by omega); have e1 := i56_7 (by omega); omega⟩
                    · refine Z_iconst (n := 153) dX3_equal_152 rfl (by decide) ?_
                      refine Z_goto (t := 157) dX3_equal_153 (by decide) ?_
                      refine Z_fr (fun frR => ?_)
                      refine Z_iret dX3_equal_157 rfl ?_
                      have hfz : ∀ a : Nat, a ≠ 13 → a ≠ 0 → fillz (uz M56 0 7 0) 13 40 (-1) a = M56 a := fun a h1 h2 => by rw [fillz_o h1, uz_o h2]
                      exact ⟨i56_0, cI_mk hc frR (pI_fr i56_5 (hfz 5 (by decide) (by decide)) (hfz 6 (by decide) (by decide)) (hfz 10 (by decide) (by decide)) (hfz 11 (by decide) (by decide))) (ordOK_fr hc.2.1 ((hfz 4 (by decide) (by decide)).trans i56_6)), fun q => by have e0 := q net (by omega) (by omega); have e1 := i56_7 (by omega); omega⟩
                  · refine Z_bipush (n := 144) dX3_equal_142 rfl (by decide) (by decide) ?_
                    refine Z_goto (t := 157) dX3_equal_144 (by decide) ?_
                    refine Z_fr (fun frR => ?_)
                    refine Z_iret dX3_equal_157 rfl ?_
                    have hfz : ∀ a : Nat, a ≠ 13 → a ≠ 0 → fillz (uz M56 0 7 0) 13 40 (-1) a = M56 a := fun a h1 h2 => by rw [fillz_o h1, uz_o h2]
                    exact ⟨i56_0, cI_mk hc frR (pI_fr i56_5 (hfz 5 (by decide) (by decide)) (hfz 6 (by decide) (by decide)) (hfz 10 (by decide) (by decide)) (hfz 11 (by decide) (by decide))) (ordOK_fr hc.2.1 ((hfz 4 (by decide) (by decide)).trans i56_6)), fun q => by have e0 := q net (by omega) (by omega); have e1 := i56_7 (by omega); omega⟩
                · refine Z_aload_n (n := 68) dX3_equal_67 rfl rfl ?_
                  refine Z_fr (fun fr56 => ?_)
                  have hN1 : netOK M56 (nA net) := netOK_fr (cI_net hc (nA_at (by omega) (by omega))) (fr56 (nA net) (by unfold kPub nA; omega)).1 (fr56 (nA net + 1) (by unfold kPub nA; omega)).1 (fr56 (nA net + 2) (by unfold kPub nA; omega)).1 (fr56 (nA net + 3) (by unfold kPub nA; omega)).1
                  have hb1 : M56 (nA net) 5 = M (nA net) 5 := congrFun (fr56 (nA net) (by unfold kPub nA; omega)).1 5
                  have hO56 : ordOK M56 := ordOK_fr hc.2.1 i56_6
                  refine Z_aload_n (n := 69) dX3_equal_68 rfl rfl ?_
                  refine Z_getA (n := 72) dX3_equal_69 rfl ffX3_11 (by first | rfl | exact nS0 (nA_at (by omega) (by omega))) (by first | rfl | exact nS0 (nA_at (by omega) (by omega))) ?_
                  refine Z_iload_n (n := 73) dX3_equal_72 rfl rfl ?_
                  refine Z_aald (n := 74) dX3_equal_73 rfl (by first | rfl | exact nS0 (nA_at (by omega) (by omega))) (by decide) (by omega) (by omega) (nA_P (by omega) (by omega)) ?_
                  refine Z_iload (n := 76) dX3_equal_74 rfl rfl ?_
                  refine Z_callVi (n := 79) [_, _] _ dX3_equal_76 rfl cwX3_129 rfl rfl (by first | rfl | exact nS0 (nA_at (by omega) (by omega))) (Nat.le_of_ble_eq_true rfl) (by refine ⟨?_, ?_, ?_, ?_⟩ <;> exact Nat.le_of_ble_eq_true rfl) (fun a h => by unfold kPub at h; unfold kStep; omega) (zX3_building  (by exact nA_at (by omega) (by omega)) (by exact hN1) (by omega) (by omega) (by assumption) (by exact hO56)) ?_
                  intro x76 M76 J76 z76 f76 q76
                  obtain ⟨e76_1, l76, u76, pi76⟩ := q76
                  replace e76_1 := e76_1.symm; subst e76_1
                  refine Z_istore (L' := [_, _, _, _, _, _, _, _]) (n := 81) dX3_equal_79 rfl (by decide) rfl rfl ?_
                  refine Z_iload (n := 83) dX3_equal_81 rfl rfl ?_
                  refine Z_iconst (n := 84) dX3_equal_83 rfl (by decide) ?_
                  refine Z_icmp_ne (n := 87) (t := 91) dX3_equal_84 rfl (by decide) (fun c84 => ?_) (fun c84 => ?_)
                  · refine Z_aload_n (n := 92) dX3_equal_91 rfl rfl ?_
                    refine Z_fr (fun fr76 => ?_)
                    have hN2 : netOK M76 (nA oth) := netOK_fr (cI_net hc (nA_at (by omega) (by omega))) (fr76 (nA oth) (by unfold kPub nA; omega)).1 (fr76 (nA oth + 1) (by unfold kPub nA; omega)).1 (fr76 (nA oth + 2) (by unfold kPub nA; omega)).1 (fr76 (nA oth + 3) (by unfold kPub nA; omega)).1
                    have hb2 : M76 (nA oth) 5 = M (nA oth) 5 := congrFun (fr76 (nA oth) (by unfold kPub nA; omega)).1 5
                    have hO76 : ordOK M76 := ordOK_fr hO56 (f76 4 (by decide)).1
                    refine Z_aload_n (n := 93) dX3_equal_92 rfl rfl ?_
                    refine Z_getA (n := 96) dX3_equal_93 rfl ffX3_11 (by first | rfl | exact nS0 (nA_at (by omega) (by omega))) (by first | rfl | exact nS0 (nA_at (by omega) (by omega))) ?_
                    refine Z_iload_n (n := 97) dX3_equal_96 rfl rfl ?_
                    refine Z_aald (n := 98) dX3_equal_97 rfl (by first | rfl | exact nS0 (nA_at (by omega) (by omega))) (by decide) (by omega) (by omega) (nA_P (by omega) (by omega)) ?_
                    refine Z_iload (n := 100) dX3_equal_98 rfl rfl ?_
                    refine Z_callVi (n := 103) [_, _] _ dX3_equal_100 rfl cwX3_129 rfl rfl (by first | rfl | exact nS0 (nA_at (by omega) (by omega))) (Nat.le_of_ble_eq_true rfl) (by refine ⟨?_, ?_, ?_, ?_⟩ <;> exact Nat.le_of_ble_eq_true rfl) (fun a h => by unfold kPub at h; unfold kStep; omega) (zX3_building  (by exact nA_at (by omega) (by omega)) (by exact hN2) (by omega) (by omega) (by assumption) (by exact hO76)) ?_
                    intro x100 M100 J100 z100 f100 q100
                    obtain ⟨e100_1, l100, u100, pi100⟩ := q100
                    replace e100_1 := e100_1.symm; subst e100_1
                    refine Z_istore (L' := [_, _, _, _, _, _, _, _]) (n := 105) dX3_equal_103 rfl (by decide) rfl rfl ?_
                    refine Z_aload_n (n := 106) dX3_equal_105 rfl rfl ?_
                    refine Z_bipush (n := 108) dX3_equal_106 rfl (by decide) (by decide) ?_
                    refine Z_iload (n := 110) dX3_equal_108 rfl rfl ?_
                    refine Z_iload (n := 112) dX3_equal_110 rfl rfl ?_
                    refine Z_iconst (n := 113) dX3_equal_112 rfl (by decide) ?_
                    refine Z_callVi (n := 116) [_, _, _, _] _ dX3_equal_113 rfl cwX3_142 rfl rfl (by first | rfl | exact nS0 (nA_at (by omega) (by omega))) (Nat.le_of_ble_eq_true rfl) (by refine ⟨?_, ?_, ?_, ?_⟩ <;> exact Nat.le_of_ble_eq_true rfl) (fun a h => by unfold kPub at h; unfold kStep; omega) (zX3_kindStep  (by omega) (by omega) (by omega) (by omega) (by omega) (by omega) (by omega) (by omega) (by assumption)) ?_
                    intro x113 M113 J113 z113 f113 q113
                    obtain ⟨e113_1, l113, u113, pi113, -⟩ := q113
                    replace e113_1 := e113_1.symm; subst e113_1
                    refine Z_istore (L' := [_, _, _, _, _, _, _, _]) (n := 118) dX3_equal_116 rfl (by decide) rfl rfl ?_
                    refine Z_aload_n (n := 119) dX3_equal_118 rfl rfl ?_
                    refine Z_iload (n := 121) dX3_equal_119 rfl rfl ?_
                    refine Z_iload (n := 123) dX3_equal_121 rfl rfl ?_
                    refine Z_callVv (n := 126) [_, _] _ dX3_equal_123 rfl cwX3_184 rfl rfl (by first | rfl | exact nS0 (nA_at (by omega) (by omega))) (Nat.le_of_ble_eq_true rfl) (by refine ⟨?_, ?_, ?_, ?_⟩ <;> exact Nat.le_of_ble_eq_true rfl) (fun a h => by unfold kPub at h; unfold k0; omega) (zX3_notePart  (by omega) (by omega)) ?_
                    intro M123 J123 f123 q123
                    have e123_1 := q123
                    replace e123_1 := e123_1.symm; subst e123_1
                    refine Z_iinc (L' := [_, _, _, _, _, _, _, _]) (n := 129) dX3_equal_126 rfl rfl (by decide) rfl rfl (by omega) rfl ?_
                    refine Z_goto (t := 56) dX3_equal_129 (by decide) ?_
                    refine Z_loc (L' := [some _, some _, some _, some _, some _, some _, none, none]) (lsub_same (lsub_same (lsub_same (lsub_same (lsub_same (lsub_same (lsub_none (lsub_none lsub_nil)))))))) ?_
                    exact ih56 _ _ _ _ (by omega) (by first | rfl | assumption) (by first | assumption | omega | decide) (by first | assumption | omega | decide) (by first | assumption | omega | decide) (by first | assumption | omega | decide) (by first | exact pI_fr hc.1 (uz_o (by decide)) (uz_o (by decide)) (uz_o (by decide)) (uz_o (by decide)) | exact hc.1 | exact pI_fr pi113 (f123 5 (by decide)).1 (f123 6 (by decide)).1 (f123 10 (by decide)).1 (f123 11 (by decide)).1) (by first | exact uz_o (by decide) | rfl | exact ((f123 4 (by decide)).1).trans (((f113 4 (by decide)).1).trans (((f100 4 (by decide)).1).trans (((f76 4 (by decide)).1).trans i56_6))) | exact ((f123 4 (by decide)).1).trans (((f113 4 (by decide)).1).trans (((f76 4 (by decide)).1).trans i56_6))) (by first | exact fun _ => rfl | exact fun q => by omega)
                  · refine Z_iconst (n := 88) dX3_equal_87 rfl (by decide) ?_
                    refine Z_goto (t := 103) dX3_equal_88 (by decide) ?_
                    refine Z_istore (L' := [_, _, _, _, _, _, _, _]) (n := 105) dX3_equal_103 rfl (by decide) rfl rfl ?_
                    refine Z_aload_n (n := 106) dX3_equal_105 rfl rfl ?_
                    refine Z_bipush (n := 108) dX3_equal_106 rfl (by decide) (by decide) ?_
                    refine Z_iload (n := 110) dX3_equal_108 rfl rfl ?_
                    refine Z_iload (n := 112) dX3_equal_110 rfl rfl ?_
                    refine Z_iconst (n := 113) dX3_equal_112 rfl (by decide) ?_
                    refine Z_callVi (n := 116) [_, _, _, _] _ dX3_equal_113 rfl cwX3_142 rfl rfl (by first | rfl | exact nS0 (nA_at (by omega) (by omega))) (Nat.le_of_ble_eq_true rfl) (by refine ⟨?_, ?_, ?_, ?_⟩ <;> exact Nat.le_of_ble_eq_true rfl) (fun a h => by unfold kPub at h; unfold kStep; omega) (zX3_kindStep  (by omega) (by omega) (by omega) (by omega) (by omega) (by omega) (by omega) (by omega) (by assumption)) ?_
                    intro x113 M113 J113 z113 f113 q113
                    obtain ⟨e113_1, l113, u113, pi113, -⟩ := q113
                    replace e113_1 := e113_1.symm; subst e113_1
                    refine Z_istore (L' := [_, _, _, _, _, _, _, _]) (n := 118) dX3_equal_116 rfl (by decide) rfl rfl ?_
                    refine Z_aload_n (n := 119) dX3_equal_118 rfl rfl ?_
                    refine Z_iload (n := 121) dX3_equal_119 rfl rfl ?_
                    refine Z_iload (n := 123) dX3_equal_121 rfl rfl ?_
                    refine Z_callVv (n := 126) [_, _] _ dX3_equal_123 rfl cwX3_184 rfl rfl (by first | rfl | exact nS0 (nA_at (by omega) (by omega))) (Nat.le_of_ble_eq_true rfl) (by refine ⟨?_, ?_, ?_, ?_⟩ <;> exact Nat.le_of_ble_eq_true rfl) (fun a h => by unfold kPub at h; unfold k0; omega) (zX3_notePart  (by omega) (by omega)) ?_
                    intro M123 J123 f123 q123
                    have e123_1 := q123
                    replace e123_1 := e123_1.symm; subst e123_1
                    refine Z_iinc (L' := [_, _, _, _, _, _, _, _]) (n := 129) dX3_equal_126 rfl rfl (by decide) rfl rfl (by omega) rfl ?_
                    refine Z_goto (t := 56) dX3_equal_129 (by decide) ?_
                    refine Z_loc (L' := [some _, some _, some _, some _, some _, some _, none, none]) (lsub_same (lsub_same (lsub_same (lsub_same (lsub_same (lsub_same (lsub_none (lsub_none lsub_nil)))))))) ?_
                    exact ih56 _ _ _ _ (by omega) (by first | rfl | assumption) (by first | assumption | omega | decide) (by first | assumption | omega | decide) (by first | assumption | omega | decide) (by first | assumption | omega | decide) (by first | exact pI_fr hc.1 (uz_o (by decide)) (uz_o (by decide)) (uz_o (by decide)) (uz_o (by decide)) | exact hc.1 | exact pI_fr pi113 (f123 5 (by decide)).1 (f123 6 (by decide)).1 (f123 10 (by decide)).1 (f123 11 (by decide)).1) (by first | exact uz_o (by decide) | rfl | exact ((f123 4 (by decide)).1).trans (((f113 4 (by decide)).1).trans (((f100 4 (by decide)).1).trans (((f76 4 (by decide)).1).trans i56_6))) | exact ((f123 4 (by decide)).1).trans (((f113 4 (by decide)).1).trans (((f76 4 (by decide)).1).trans i56_6))) (by first | exact fun _ => rfl | exact fun q => by omega)
          refine Z_loc (L' := [some _, some _, some _, some _, some _, some _, none, none]) (lsub_same (lsub_same (lsub_same (lsub_same (lsub_same (lsub_same (lsub_none (lsub_none lsub_nil)))))))) ?_
          exact lp56 _ _ _ _ _ (Nat.lt_succ_self _) (by first | rfl | assumption) (by first | assumption | omega | decide) (by first | assumption | omega | decide) (by first | assumption | omega | decide) (by first | assumption | omega | decide) (by first | exact pI_fr hc.1 (uz_o (by decide)) (uz_o (by decide)) (uz_o (by decide)) (uz_o (by decide)) | exact hc.1 | exact pI_fr pi113 (f123 5 (by decide)).1 (f123 6 (by decide)).1 (f123 10 (by decide)).1 (f123 11 (by decide)).1) (by first | exact uz_o (by decide) | rfl | exact ((f123 4 (by decide)).1).trans (((f113 4 (by decide)).1).trans (((f100 4 (by decide)).1).trans (((f76 4 (by decide)).1).trans i56_6))) | exact ((f123 4 (by decide)).1).trans (((f113 4 (by decide)).1).trans (((f76 4 (by decide)).1).trans i56_6))) (by first | exact fun _ => rfl | exact fun q => by omega)
      · 
        refine Z_bipush (n := 41) dX3_equal_39 rfl (by decide) (by decide) ?_
        refine Z_iret dX3_equal_41 rfl ?_
        exact ⟨rfl, hc, fun q => by have := q net (by omega) (by omega); have := q oth (by omega) (by omega); omega⟩
    · refine Z_iconst (n := 15) dX3_equal_14 rfl (by decide) ?_
      refine Z_iret dX3_equal_15 rfl ?_
      exact ⟨rfl, hc, fun _ => Or.inl ⟨by omega, rfl⟩⟩
