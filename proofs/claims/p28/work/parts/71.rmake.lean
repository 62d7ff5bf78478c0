/-! ===== the reference: what makes bits, as functions ===== -/
set_option maxRecDepth 20000 in
theorem zX4_makeOf_f {G : tl_G} {M : zM} {J : zJ} {t k f g : Int} (t0 : 0 ≤ t) (t1 : t < 56) (f0 : 0 ≤ f) (f1 : f < 56) (g0 : 0 ≤ g) (g1 : g < 56) : ZN G yX4_makeOf mX4_makeOf 1 kBits [vR 31, vI t, vI k, vI f, vI g] F1 M J (qV (fun M' J' => M' = M ∧ (∀ j : Int, 0 ≤ j → j < 4 → J' 44 (4 * t + j) = joinF k (J 44 (4 * f + j)) (J 44 (4 * g + j))) ∧ ∀ j : Int, (j < 4 * t ∨ 4 * t + 4 ≤ j) → J' 44 j = J 44 j)) := by
  refine ZN_of (L := [_, _, _, _, _, _]) (by decide) rfl rfl (Nat.le_of_ble_eq_true rfl) rfl (fun hav => ?_)
  refine Z_iconst (n := 1) dX4_makeOf_0 rfl (by decide) ?_
  refine Z_istore (L' := [_, _, _, _, _, _]) (n := 3) dX4_makeOf_1 rfl (by decide) rfl rfl ?_
  have lp3 : ∀ (N3 : Nat) (q : Int) (M3 : zM) (J3 : zJ), ((4 - q).toNat) < N3 → (M3 = M) → (0 ≤ q) → (q ≤ 4) → (∀ j : Int, 0 ≤ j → j < q → J3 44 (4 * t + j) = joinF k (J 44 (4 * f + j)) (J 44 (4 * g + j))) → (∀ j : Int, (j < 4 * t ∨ 4 * t + q ≤ j) → J3 44 j = J 44 j) → TZ G mX4_makeOf (tl_rm 1 0 0) 0 0 kBits M J 3 [some (vR 31), some (vI t), some (vI k), some (vI f), some (vI g), some (vI q)] [] F1 M3 J3 (ZM G (zPost G kBits F1 M J (qV (fun M' J' => M' = M ∧ (∀ j : Int, 0 ≤ j → j < 4 → J' 44 (4 * t + j) = joinF k (J 44 (4 * f + j)) (J 44 (4 * g + j))) ∧ ∀ j : Int, (j < 4 * t ∨ 4 * t + 4 ≤ j) → J' 44 j = J 44 j))) 0 0) := by
    intro N3
    induction N3 with
    | zero => intro q M3 J3 hN; omega
    | succ N3 ih3 =>
      intro q M3 J3 hN3 i3_0 i3_1 i3_2 i3_3 i3_4
      refine Z_iload (n := 5) dX4_makeOf_3 rfl rfl ?_
      refine Z_iconst (n := 6) dX4_makeOf_5 rfl (by decide) ?_
      refine Z_icmp_ge (n := 9) (t := 53) dX4_makeOf_6 rfl (by decide) (fun c6 => ?_) (fun c6 => ?_)
      · refine Z_vret dX4_makeOf_53 rfl ?_
        exact ⟨i3_0, fun j j0 j1 => i3_3 j j0 (by omega), fun j hj => i3_4 j (by omega)⟩
      · refine Z_aload_n (n := 10) dX4_makeOf_9 rfl rfl ?_
        refine Z_getA (n := 13) dX4_makeOf_10 rfl ffX4_47 rfl rfl ?_
        refine Z_iconst (n := 14) dX4_makeOf_13 rfl (by decide) ?_
        refine Z_iload_n (n := 15) dX4_makeOf_14 rfl rfl ?_
        refine Z_imul (n := 16) dX4_makeOf_15 rfl (by omega) ?_
        refine Z_iload (n := 18) dX4_makeOf_16 rfl rfl ?_
        refine Z_iadd (n := 19) dX4_makeOf_18 rfl (by omega) ?_
        refine Z_iload_n (n := 20) dX4_makeOf_19 rfl rfl ?_
        refine Z_aload_n (n := 21) dX4_makeOf_20 rfl rfl ?_
        refine Z_getA (n := 24) dX4_makeOf_21 rfl ffX4_47 rfl rfl ?_
        refine Z_iconst (n := 25) dX4_makeOf_24 rfl (by decide) ?_
        refine Z_iload_n (n := 26) dX4_makeOf_25 rfl rfl ?_
        refine Z_imul (n := 27) dX4_makeOf_26 rfl (by omega) ?_
        refine Z_iload (n := 29) dX4_makeOf_27 rfl rfl ?_
        refine Z_iadd (n := 30) dX4_makeOf_29 rfl (by omega) ?_
        refine Z_lald (n := 31) dX4_makeOf_30 rfl rfl (by decide) (by omega) (by omega) ?_
        refine Z_aload_n (n := 32) dX4_makeOf_31 rfl rfl ?_
        refine Z_getA (n := 35) dX4_makeOf_32 rfl ffX4_47 rfl rfl ?_
        refine Z_iconst (n := 36) dX4_makeOf_35 rfl (by decide) ?_
        refine Z_iload (n := 38) dX4_makeOf_36 rfl rfl ?_
        refine Z_imul (n := 39) dX4_makeOf_38 rfl (by omega) ?_
        refine Z_iload (n := 41) dX4_makeOf_39 rfl rfl ?_
        refine Z_iadd (n := 42) dX4_makeOf_41 rfl (by omega) ?_
        refine Z_lald (n := 43) dX4_makeOf_42 rfl rfl (by decide) (by omega) (by omega) ?_
        refine Z_callSl (n := 46) [_, _, _] _ dX4_makeOf_43 rfl cwX4_190 rfl rfl (Nat.le_of_ble_eq_true rfl) (by refine ⟨?_, ?_, ?_, ?_⟩ <;> exact Nat.le_of_ble_eq_true rfl) (fun _ _ => trivial) (zX4_joined  ) ?_
        intro x43 M43 J43 f43 q43
        obtain ⟨e43_1, e43_2, h43⟩ := q43
        replace e43_1 := e43_1.symm; subst e43_1
        replace e43_2 := e43_2.symm; subst e43_2
        refine Z_last (n := 47) dX4_makeOf_46 rfl rfl (by decide) (by omega) (by omega) (by decide) ?_
        have nx3 : ∀ j : Int, 0 ≤ j → j < q + 1 → uz J3 44 (4 * t + q) x43 44 (4 * t + j) = joinF k (J 44 (4 * f + j)) (J 44 (4 * g + j)) := fun j j0 j1 => by
          rw [uz_a]
          split
          · rw [show j = q by omega, h43, i3_4 (4 * f + q) (by omega), i3_4 (4 * g + q) (by omega)]
          · exact i3_3 j j0 (by omega)
        refine Z_iinc (L' := [_, _, _, _, _, _]) (n := 50) dX4_makeOf_47 rfl rfl (by decide) rfl rfl (by omega) rfl ?_
        refine Z_goto (t := 3) dX4_makeOf_50 (by decide) ?_
        refine Z_loc (L' := [some _, some _, some _, some _, some _, some _]) (lsub_same (lsub_same (lsub_same (lsub_same (lsub_same (lsub_same lsub_nil)))))) ?_
        exact ih3 _ _ _ (by omega) (by first | rfl | assumption) (by first | assumption | omega | decide) (by first | assumption | omega | decide) (by exact nx3) (by exact fun j hj => by rw [uz_n (by omega)]; exact i3_4 j (by omega))
  refine Z_loc (L' := [some _, some _, some _, some _, some _, some _]) (lsub_same (lsub_same (lsub_same (lsub_same (lsub_same (lsub_same lsub_nil)))))) ?_
  exact lp3 _ _ _ _ (Nat.lt_succ_self _) (by rfl) (by first | assumption | omega | decide) (by first | assumption | omega | decide) (by exact fun j j0 j1 => by omega) (by exact fun j _ => rfl)
set_option maxRecDepth 20000 in
theorem zX4_makeHalf_f {G : tl_G} {M : zM} {J : zJ} {t f v y : Int} (t0 : 0 ≤ t) (t1 : t < 56) (f0 : 0 ≤ f) (f1 : f < 56) (v0 : 0 ≤ v) (v1 : v < 8) (hO : rOrd M) (hft : f ≠ t) : ZN G yX4_makeHalf mX4_makeHalf 0 kBits [vR 31, vI t, vI f, vI v, vI y] F1 M J (qV (fun M' J' => M' = M ∧ (∀ j : Int, 0 ≤ j → j < 4 → J' 44 (4 * t + j) = hfW (J 54) (M 39 v) y (bitF J f) j) ∧ ∀ j : Int, (j < 4 * t ∨ 4 * t + 4 ≤ j) → J' 44 j = J 44 j)) := by
  refine ZN_of (L := [_, _, _, _, _, _, _, _, _, _]) (by decide) rfl rfl (Nat.le_of_ble_eq_true rfl) rfl (fun hav => ?_)
  have hw := hO v v0 v1
  refine Z_aload_n (n := 1) dX4_makeHalf_0 rfl rfl ?_
  refine Z_getA (n := 4) dX4_makeHalf_1 rfl ffX4_32 rfl rfl ?_
  refine Z_iload_n (n := 5) dX4_makeHalf_4 rfl rfl ?_
  refine Z_iald (n := 6) dX4_makeHalf_5 rfl rfl rfl (by first | decide | assumption) (by omega) (by omega) (fun r5 s5 => ?_)
  refine Z_istore (L' := [_, _, _, _, _, _, _, _, _, _]) (n := 8) dX4_makeHalf_6 rfl (by decide) rfl rfl ?_
  refine Z_iconst (n := 9) dX4_makeHalf_8 rfl (by decide) ?_
  refine Z_istore (L' := [_, _, _, _, _, _, _, _, _, _]) (n := 11) dX4_makeHalf_9 rfl (by decide) rfl rfl ?_
  have lp11 : ∀ (N11 : Nat) (q : Int) (M11 : zM) (J11 : zJ), ((4 - q).toNat) < N11 → (M11 = M) → (0 ≤ q) → (q ≤ 4) → (∀ j : Int, 0 ≤ j → j < q → J11 44 (4 * t + j) = hfW (J 54) (M 39 v) y (bitF J f) j) → (∀ j : Int, (j < 4 * t ∨ 4 * t + 4 ≤ j) → J11 44 j = J 44 j) → TZ G mX4_makeHalf (tl_rm 0 0 0) 0 0 kBits M J 11 [some (vR 31), some (vI t), some (vI f), some (vI v), some (vI y), some (vI (M 39 v)), some (vI q), none, none, none] [] F1 M11 J11 (ZM G (zPost G kBits F1 M J (qV (fun M' J' => M' = M ∧ (∀ j : Int, 0 ≤ j → j < 4 → J' 44 (4 * t + j) = hfW (J 54) (M 39 v) y (bitF J f) j) ∧ ∀ j : Int, (j < 4 * t ∨ 4 * t + 4 ≤ j) → J' 44 j = J 44 j))) 0 0) := by
    intro N11
    induction N11 with
    | zero => intro q M11 J11 hN; omega
    | succ N11 ih11 =>
      intro q M11 J11 hN11 i11_0 i11_1 i11_2 i11_3 i11_4
      refine Z_iload (n := 13) dX4_makeHalf_11 rfl rfl ?_
      refine Z_iconst (n := 14) dX4_makeHalf_13 rfl (by decide) ?_
      refine Z_icmp_ge (n := 17) (t := 168) dX4_makeHalf_14 rfl (by decide) (fun c14 => ?_) (fun c14 => ?_)
      · refine Z_vret dX4_makeHalf_168 rfl ?_
        exact ⟨i11_0, fun j j0 j1 => i11_3 j j0 (by omega), i11_4⟩
      · refine Z_fr (fun fr11 => ?_)
        replace i11_0 := i11_0.symm; subst i11_0
        refine Z_iload (n := 19) dX4_makeHalf_17 rfl rfl ?_
        refine Z_iconst (n := 20) dX4_makeHalf_19 rfl (by decide) ?_
        refine Z_icmp_ge (n := 23) (t := 78) dX4_makeHalf_20 rfl (by decide) (fun c20 => ?_) (fun c20 => ?_)
        · refine Z_iconst (n := 79) dX4_makeHalf_78 rfl (by decide) ?_
          refine Z_bipush (n := 81) dX4_makeHalf_79 rfl (by decide) (by decide) ?_
          refine Z_iload (n := 83) dX4_makeHalf_81 rfl rfl ?_
          refine Z_isub (n := 84) dX4_makeHalf_83 rfl (by omega) ?_
          refine Z_ishl (n := 85) dX4_makeHalf_84 rfl ?_
          refine Z_istore (L' := [_, _, _, _, _, _, _, _, _, _]) (n := 87) dX4_makeHalf_85 rfl (by decide) rfl rfl ?_
          refine Z_aload_n (n := 88) dX4_makeHalf_87 rfl rfl ?_
          refine Z_getA (n := 91) dX4_makeHalf_88 rfl ffX4_47 rfl rfl ?_
          refine Z_iconst (n := 92) dX4_makeHalf_91 rfl (by decide) ?_
          refine Z_iload_n (n := 93) dX4_makeHalf_92 rfl rfl ?_
          refine Z_imul (n := 94) dX4_makeHalf_93 rfl (by omega) ?_
          refine Z_iload (n := 96) dX4_makeHalf_94 rfl rfl ?_
          refine Z_iadd (n := 97) dX4_makeHalf_96 rfl (by omega) ?_
          refine Z_lald (n := 98) dX4_makeHalf_97 rfl rfl (by decide) (by omega) (by omega) ?_
          refine Z_iload (n := 100) dX4_makeHalf_98 rfl rfl ?_
          refine Z_if_eq (n := 103) (t := 113) dX4_makeHalf_100 rfl (by decide) (fun c100 => ?_) (fun c100 => ?_)
          · refine Z_aload_n (n := 114) dX4_makeHalf_113 rfl rfl ?_
            refine Z_getA (n := 117) dX4_makeHalf_114 rfl ffX4_90 rfl rfl ?_
            refine Z_iload (n := 119) dX4_makeHalf_117 rfl rfl ?_
            refine Z_lald (n := 120) dX4_makeHalf_119 rfl rfl (by decide) (by omega) (by omega) ?_
            refine Z_ldc2 (n := 123) dX4_makeHalf_120 rfl clX4_188 ?_
            refine Z_lxor (n := 124) dX4_makeHalf_123 rfl ?_
            refine Z_land (n := 125) dX4_makeHalf_124 rfl ?_
            refine Z_lstore (L' := [_, _, _, _, _, _, _, _, _, _]) (n := 127) dX4_makeHalf_125 rfl (by decide) rfl rfl ?_
            refine Z_aload_n (n := 128) dX4_makeHalf_127 rfl rfl ?_
            refine Z_getA (n := 131) dX4_makeHalf_128 rfl ffX4_47 rfl rfl ?_
            refine Z_iconst (n := 132) dX4_makeHalf_131 rfl (by decide) ?_
            refine Z_iload_n (n := 133) dX4_makeHalf_132 rfl rfl ?_
            refine Z_imul (n := 134) dX4_makeHalf_133 rfl (by omega) ?_
            refine Z_iload (n := 136) dX4_makeHalf_134 rfl rfl ?_
            refine Z_iadd (n := 137) dX4_makeHalf_136 rfl (by omega) ?_
            refine Z_iload (n := 139) dX4_makeHalf_137 rfl rfl ?_
            refine Z_if_eq (n := 142) (t := 153) dX4_makeHalf_139 rfl (by decide) (fun c139 => ?_) (fun c139 => ?_)
            · refine Z_lload (n := 155) dX4_makeHalf_153 rfl rfl ?_
              refine Z_lload (n := 157) dX4_makeHalf_155 rfl rfl ?_
              refine Z_iload (n := 159) dX4_makeHalf_157 rfl rfl ?_
              refine Z_lshl (n := 160) dX4_makeHalf_159 rfl ?_
              refine Z_lor (n := 161) dX4_makeHalf_160 rfl ?_
              refine Z_last (n := 162) dX4_makeHalf_161 rfl rfl (by decide) (by omega) (by omega) (by decide) ?_
              refine Z_iinc (L' := [_, _, _, _, _, _, _, _, _, _]) (n := 165) dX4_makeHalf_162 rfl rfl (by decide) rfl rfl (by omega) rfl ?_
              refine Z_goto (t := 11) dX4_makeHalf_165 (by decide) ?_
              refine Z_loc (L' := [some _, some _, some _, some _, some _, some _, some _, none, none, none]) (lsub_same (lsub_same (lsub_same (lsub_same (lsub_same (lsub_same (lsub_same (lsub_none (lsub_none (lsub_none lsub_nil)))))))))) ?_
              exact ih11 _ _ _ (by omega) (by first | rfl | assumption) (by first | assumption | omega | decide) (by first | assumption | omega | decide) (by exact st_step (by unfold hfW bitF; first  | (exfalso; omega)  | (rw [if_pos (show M 39 v < 2 by omega), if_neg (show ¬ y = 0 by omega), if_pos (show M 39 v = 0 by omega)]; exact i11_4 _ (by omega))  | (rw [if_pos (show M 39 v < 2 by omega), if_neg (show ¬ y = 0 by omega), if_neg (show ¬ M 39 v = 0 by omega)]; exact i11_4 _ (by omega))  | (rw [if_pos (show M 39 v < 2 by omega), if_pos (show y = 0 by omega), if_pos (show M 39 v = 0 by omega)]; exact i11_4 _ (by omega))  | (rw [if_pos (show M 39 v < 2 by omega), if_pos (show y = 0 by omega), if_neg (show ¬ M 39 v = 0 by omega)]; exact i11_4 _ (by omega))  | (rw [if_neg (show ¬ M 39 v < 2 by omega), if_neg (show ¬ y = 0 by omega), i11_4 (4 * f + q) (by omega), congrFun (fr11 54 (by decide)).2 (M 39 v)])  | (rw [if_neg (show ¬ M 39 v < 2 by omega), if_pos (show y = 0 by omega), i11_4 (4 * f + q) (by omega), congrFun (fr11 54 (by decide)).2 (M 39 v)])) i11_3) (by exact fun j hj => by rw [uz_n (by omega)]; exact i11_4 j hj)
            · refine Z_lload (n := 144) dX4_makeHalf_142 rfl rfl ?_
              refine Z_lload (n := 146) dX4_makeHalf_144 rfl rfl ?_
              refine Z_iload (n := 148) dX4_makeHalf_146 rfl rfl ?_
              refine Z_lushr (n := 149) dX4_makeHalf_148 rfl ?_
              refine Z_lor (n := 150) dX4_makeHalf_149 rfl ?_
              refine Z_goto (t := 161) dX4_makeHalf_150 (by decide) ?_
              refine Z_last (n := 162) dX4_makeHalf_161 rfl rfl (by decide) (by omega) (by omega) (by decide) ?_
              refine Z_iinc (L' := [_, _, _, _, _, _, _, _, _, _]) (n := 165) dX4_makeHalf_162 rfl rfl (by decide) rfl rfl (by omega) rfl ?_
              refine Z_goto (t := 11) dX4_makeHalf_165 (by decide) ?_
              refine Z_loc (L' := [some _, some _, some _, some _, some _, some _, some _, none, none, none]) (lsub_same (lsub_same (lsub_same (lsub_same (lsub_same (lsub_same (lsub_same (lsub_none (lsub_none (lsub_none lsub_nil)))))))))) ?_
              exact ih11 _ _ _ (by omega) (by first | rfl | assumption) (by first | assumption | omega | decide) (by first | assumption | omega | decide) (by exact st_step (by unfold hfW bitF; first  | (exfalso; omega)  | (rw [if_pos (show M 39 v < 2 by omega), if_neg (show ¬ y = 0 by omega), if_pos (show M 39 v = 0 by omega)]; exact i11_4 _ (by omega))  | (rw [if_pos (show M 39 v < 2 by omega), if_neg (show ¬ y = 0 by omega), if_neg (show ¬ M 39 v = 0 by omega)]; exact i11_4 _ (by omega))  | (rw [if_pos (show M 39 v < 2 by omega), if_pos (show y = 0 by omega), if_pos (show M 39 v = 0 by omega)]; exact i11_4 _ (by omega))  | (rw [if_pos (show M 39 v < 2 by omega), if_pos (show y = 0 by omega), if_neg (show ¬ M 39 v = 0 by omega)]; exact i11_4 _ (by omega))  | (rw [if_neg (show ¬ M 39 v < 2 by omega), if_neg (show ¬ y = 0 by omega), i11_4 (4 * f + q) (by omega), congrFun (fr11 54 (by decide)).2 (M 39 v)])  | (rw [if_neg (show ¬ M 39 v < 2 by omega), if_pos (show y = 0 by omega), i11_4 (4 * f + q) (by omega), congrFun (fr11 54 (by decide)).2 (M 39 v)])) i11_3) (by exact fun j hj => by rw [uz_n (by omega)]; exact i11_4 j hj)
          · refine Z_aload_n (n := 104) dX4_makeHalf_103 rfl rfl ?_
            refine Z_getA (n := 107) dX4_makeHalf_104 rfl ffX4_90 rfl rfl ?_
            refine Z_iload (n := 109) dX4_makeHalf_107 rfl rfl ?_
            refine Z_lald (n := 110) dX4_makeHalf_109 rfl rfl (by decide) (by omega) (by omega) ?_
            refine Z_goto (t := 124) dX4_makeHalf_110 (by decide) ?_
            refine Z_land (n := 125) dX4_makeHalf_124 rfl ?_
            refine Z_lstore (L' := [_, _, _, _, _, _, _, _, _, _]) (n := 127) dX4_makeHalf_125 rfl (by decide) rfl rfl ?_
            refine Z_aload_n (n := 128) dX4_makeHalf_127 rfl rfl ?_
            refine Z_getA (n := 131) dX4_makeHalf_128 rfl ffX4_47 rfl rfl ?_
            refine Z_iconst (n := 132) dX4_makeHalf_131 rfl (by decide) ?_
            refine Z_iload_n (n := 133) dX4_makeHalf_132 rfl rfl ?_
            refine Z_imul (n := 134) dX4_makeHalf_133 rfl (by omega) ?_
            refine Z_iload (n := 136) dX4_makeHalf_134 rfl rfl ?_
            refine Z_iadd (n := 137) dX4_makeHalf_136 rfl (by omega) ?_
            refine Z_iload (n := 139) dX4_makeHalf_137 rfl rfl ?_
            refine Z_if_eq (n := 142) (t := 153) dX4_makeHalf_139 rfl (by decide) (fun c139 => ?_) (fun c139 => ?_)
            · refine Z_lload (n := 155) dX4_makeHalf_153 rfl rfl ?_
              refine Z_lload (n := 157) dX4_makeHalf_155 rfl rfl ?_
              refine Z_iload (n := 159) dX4_makeHalf_157 rfl rfl ?_
              refine Z_lshl (n := 160) dX4_makeHalf_159 rfl ?_
              refine Z_lor (n := 161) dX4_makeHalf_160 rfl ?_
              refine Z_last (n := 162) dX4_makeHalf_161 rfl rfl (by decide) (by omega) (by omega) (by decide) ?_
              refine Z_iinc (L' := [_, _, _, _, _, _, _, _, _, _]) (n := 165) dX4_makeHalf_162 rfl rfl (by decide) rfl rfl (by omega) rfl ?_
              refine Z_goto (t := 11) dX4_makeHalf_165 (by decide) ?_
              refine Z_loc (L' := [some _, some _, some _, some _, some _, some _, some _, none, none, none]) (lsub_same (lsub_same (lsub_same (lsub_same (lsub_same (lsub_same (lsub_same (lsub_none (lsub_none (lsub_none lsub_nil)))))))))) ?_
              exact ih11 _ _ _ (by omega) (by first | rfl | assumption) (by first | assumption | omega | decide) (by first | assumption | omega | decide) (by exact st_step (by unfold hfW bitF; first  | (exfalso; omega)  | (rw [if_pos (show M 39 v < 2 by omega), if_neg (show ¬ y = 0 by omega), if_pos (show M 39 v = 0 by omega)]; exact i11_4 _ (by omega))  | (rw [if_pos (show M 39 v < 2 by omega), if_neg (show ¬ y = 0 by omega), if_neg (show ¬ M 39 v = 0 by omega)]; exact i11_4 _ (by omega))  | (rw [if_pos (show M 39 v < 2 by omega), if_pos (show y = 0 by omega), if_pos (show M 39 v = 0 by omega)]; exact i11_4 _ (by omega))  | (rw [if_pos (show M 39 v < 2 by omega), if_pos (show y = 0 by omega), if_neg (show ¬ M 39 v = 0 by omega)]; exact i11_4 _ (by omega))  | (rw [if_neg (show ¬ M 39 v < 2 by omega), if_neg (show ¬ y = 0 by omega), i11_4 (4 * f + q) (by omega), congrFun (fr11 54 (by decide)).2 (M 39 v)])  | (rw [if_neg (show ¬ M 39 v < 2 by omega), if_pos (show y = 0 by omega), i11_4 (4 * f + q) (by omega), congrFun (fr11 54 (by decide)).2 (M 39 v)])) i11_3) (by exact fun j hj => by rw [uz_n (by omega)]; exact i11_4 j hj)
            · refine Z_lload (n := 144) dX4_makeHalf_142 rfl rfl ?_
              refine Z_lload (n := 146) dX4_makeHalf_144 rfl rfl ?_
              refine Z_iload (n := 148) dX4_makeHalf_146 rfl rfl ?_
              refine Z_lushr (n := 149) dX4_makeHalf_148 rfl ?_
              refine Z_lor (n := 150) dX4_makeHalf_149 rfl ?_
              refine Z_goto (t := 161) dX4_makeHalf_150 (by decide) ?_
              refine Z_last (n := 162) dX4_makeHalf_161 rfl rfl (by decide) (by omega) (by omega) (by decide) ?_
              refine Z_iinc (L' := [_, _, _, _, _, _, _, _, _, _]) (n := 165) dX4_makeHalf_162 rfl rfl (by decide) rfl rfl (by omega) rfl ?_
              refine Z_goto (t := 11) dX4_makeHalf_165 (by decide) ?_
              refine Z_loc (L' := [some _, some _, some _, some _, some _, some _, some _, none, none, none]) (lsub_same (lsub_same (lsub_same (lsub_same (lsub_same (lsub_same (lsub_same (lsub_none (lsub_none (lsub_none lsub_nil)))))))))) ?_
              exact ih11 _ _ _ (by omega) (by first | rfl | assumption) (by first | assumption | omega | decide) (by first | assumption | omega | decide) (by exact st_step (by unfold hfW bitF; first  | (exfalso; omega)  | (rw [if_pos (show M 39 v < 2 by omega), if_neg (show ¬ y = 0 by omega), if_pos (show M 39 v = 0 by omega)]; exact i11_4 _ (by omega))  | (rw [if_pos (show M 39 v < 2 by omega), if_neg (show ¬ y = 0 by omega), if_neg (show ¬ M 39 v = 0 by omega)]; exact i11_4 _ (by omega))  | (rw [if_pos (show M 39 v < 2 by omega), if_pos (show y = 0 by omega), if_pos (show M 39 v = 0 by omega)]; exact i11_4 _ (by omega))  | (rw [if_pos (show M 39 v < 2 by omega), if_pos (show y = 0 by omega), if_neg (show ¬ M 39 v = 0 by omega)]; exact i11_4 _ (by omega))  | (rw [if_neg (show ¬ M 39 v < 2 by omega), if_neg (show ¬ y = 0 by omega), i11_4 (4 * f + q) (by omega), congrFun (fr11 54 (by decide)).2 (M 39 v)])  | (rw [if_neg (show ¬ M 39 v < 2 by omega), if_pos (show y = 0 by omega), i11_4 (4 * f + q) (by omega), congrFun (fr11 54 (by decide)).2 (M 39 v)])) i11_3) (by exact fun j hj => by rw [uz_n (by omega)]; exact i11_4 j hj)
        · refine Z_iload (n := 25) dX4_makeHalf_23 rfl rfl ?_
          refine Z_if_ne (n := 28) (t := 32) dX4_makeHalf_25 rfl (by decide) (fun c25 => ?_) (fun c25 => ?_)
          · refine Z_iconst (n := 33) dX4_makeHalf_32 rfl (by decide) ?_
            refine Z_istore (L' := [_, _, _, _, _, _, _, _, _, _]) (n := 35) dX4_makeHalf_33 rfl (by decide) rfl rfl ?_
            refine Z_aload_n (n := 36) dX4_makeHalf_35 rfl rfl ?_
            refine Z_getA (n := 39) dX4_makeHalf_36 rfl ffX4_47 rfl rfl ?_
            refine Z_iconst (n := 40) dX4_makeHalf_39 rfl (by decide) ?_
            refine Z_iload_n (n := 41) dX4_makeHalf_40 rfl rfl ?_
            refine Z_imul (n := 42) dX4_makeHalf_41 rfl (by omega) ?_
            refine Z_iload (n := 44) dX4_makeHalf_42 rfl rfl ?_
            refine Z_iadd (n := 45) dX4_makeHalf_44 rfl (by omega) ?_
            refine Z_aload_n (n := 46) dX4_makeHalf_45 rfl rfl ?_
            refine Z_getA (n := 49) dX4_makeHalf_46 rfl ffX4_47 rfl rfl ?_
            refine Z_iconst (n := 50) dX4_makeHalf_49 rfl (by decide) ?_
            refine Z_iload_n (n := 51) dX4_makeHalf_50 rfl rfl ?_
            refine Z_imul (n := 52) dX4_makeHalf_51 rfl (by omega) ?_
            refine Z_iload (n := 54) dX4_makeHalf_52 rfl rfl ?_
            refine Z_if_eq (n := 57) (t := 65) dX4_makeHalf_54 rfl (by decide) (fun c54 => ?_) (fun c54 => ?_)
            · have hz2 : 0 ≤ zand q (zxor 2 (-1)) ∧ zand q (zxor 2 (-1)) < 4 := zandn_2 (by omega) (by omega) (by decide)
              have hz1 : 0 ≤ zand q (zxor 1 (-1)) ∧ zand q (zxor 1 (-1)) < 4 := zandn_2 (by omega) (by omega) (by decide)
              refine Z_iload (n := 67) dX4_makeHalf_65 rfl rfl ?_
              refine Z_iload (n := 69) dX4_makeHalf_67 rfl rfl ?_
              refine Z_iconst (n := 70) dX4_makeHalf_69 rfl (by decide) ?_
              refine Z_ixor (n := 71) dX4_makeHalf_70 rfl ?_
              refine Z_iand (n := 72) dX4_makeHalf_71 rfl ?_
              refine Z_iadd (n := 73) dX4_makeHalf_72 rfl (by omega) ?_
              refine Z_lald (n := 74) dX4_makeHalf_73 rfl rfl (by decide) (by omega) (by omega) ?_
              refine Z_last (n := 75) dX4_makeHalf_74 rfl rfl (by decide) (by omega) (by omega) (by decide) ?_
              refine Z_goto (t := 162) dX4_makeHalf_75 (by decide) ?_
              refine Z_iinc (L' := [_, _, _, _, _, _, _, _, _, _]) (n := 165) dX4_makeHalf_162 rfl rfl (by decide) rfl rfl (by omega) rfl ?_
              refine Z_goto (t := 11) dX4_makeHalf_165 (by decide) ?_
              refine Z_loc (L' := [some _, some _, some _, some _, some _, some _, some _, none, none, none]) (lsub_same (lsub_same (lsub_same (lsub_same (lsub_same (lsub_same (lsub_same (lsub_none (lsub_none (lsub_none lsub_nil)))))))))) ?_
              exact ih11 _ _ _ (by omega) (by first | rfl | assumption) (by first | assumption | omega | decide) (by first | assumption | omega | decide) (by exact st_step (by unfold hfW bitF; first  | (exfalso; omega)  | (rw [if_pos (show M 39 v < 2 by omega), if_neg (show ¬ y = 0 by omega), if_pos (show M 39 v = 0 by omega)]; exact i11_4 _ (by omega))  | (rw [if_pos (show M 39 v < 2 by omega), if_neg (show ¬ y = 0 by omega), if_neg (show ¬ M 39 v = 0 by omega)]; exact i11_4 _ (by omega))  | (rw [if_pos (show M 39 v < 2 by omega), if_pos (show y = 0 by omega), if_pos (show M 39 v = 0 by omega)]; exact i11_4 _ (by omega))  | (rw [if_pos (show M 39 v < 2 by omega), if_pos (show y = 0 by omega), if_neg (show ¬ M 39 v = 0 by omega)]; exact i11_4 _ (by omega))  | (rw [if_neg (show ¬ M 39 v < 2 by omega), if_neg (show ¬ y = 0 by omega), i11_4 (4 * f + q) (by omega), congrFun (fr11 54 (by decide)).2 (M 39 v)])  | (rw [if_neg (show ¬ M 39 v < 2 by omega), if_pos (show y = 0 by omega), i11_4 (4 * f + q) (by omega), congrFun (fr11 54 (by decide)).2 (M 39 v)])) i11_3) (by exact fun j hj => by rw [uz_n (by omega)]; exact i11_4 j hj)
            · have hz2 : 0 ≤ zor q 2 ∧ zor q 2 < 4 := zor_2 (by omega) (by omega) (by decide)
              have hz1 : 0 ≤ zor q 1 ∧ zor q 1 < 4 := zor_2 (by omega) (by omega) (by decide)
              refine Z_iload (n := 59) dX4_makeHalf_57 rfl rfl ?_
              refine Z_iload (n := 61) dX4_makeHalf_59 rfl rfl ?_
              refine Z_ior (n := 62) dX4_makeHalf_61 rfl ?_
              refine Z_goto (t := 72) dX4_makeHalf_62 (by decide) ?_
              refine Z_iadd (n := 73) dX4_makeHalf_72 rfl (by omega) ?_
              refine Z_lald (n := 74) dX4_makeHalf_73 rfl rfl (by decide) (by omega) (by omega) ?_
              refine Z_last (n := 75) dX4_makeHalf_74 rfl rfl (by decide) (by omega) (by omega) (by decide) ?_
              refine Z_goto (t := 162) dX4_makeHalf_75 (by decide) ?_
              refine Z_iinc (L' := [_, _, _, _, _, _, _, _, _, _]) (n := 165) dX4_makeHalf_162 rfl rfl (by decide) rfl rfl (by omega) rfl ?_
              refine Z_goto (t := 11) dX4_makeHalf_165 (by decide) ?_
              refine Z_loc (L' := [some _, some _, some _, some _, some _, some _, some _, none, none, none]) (lsub_same (lsub_same (lsub_same (lsub_same (lsub_same (lsub_same (lsub_same (lsub_none (lsub_none (lsub_none lsub_nil)))))))))) ?_
              exact ih11 _ _ _ (by omega) (by first | rfl | assumption) (by first | assumption | omega | decide) (by first | assumption | omega | decide) (by exact st_step (by unfold hfW bitF; first  | (exfalso; omega)  | (rw [if_pos (show M 39 v < 2 by omega), if_neg (show ¬ y = 0 by omega), if_pos (show M 39 v = 0 by omega)]; exact i11_4 _ (by omega))  | (rw [if_pos (show M 39 v < 2 by omega), if_neg (show ¬ y = 0 by omega), if_neg (show ¬ M 39 v = 0 by omega)]; exact i11_4 _ (by omega))  | (rw [if_pos (show M 39 v < 2 by omega), if_pos (show y = 0 by omega), if_pos (show M 39 v = 0 by omega)]; exact i11_4 _ (by omega))  | (rw [if_pos (show M 39 v < 2 by omega), if_pos (show y = 0 by omega), if_neg (show ¬ M 39 v = 0 by omega)]; exact i11_4 _ (by omega))  | (rw [if_neg (show ¬ M 39 v < 2 by omega), if_neg (show ¬ y = 0 by omega), i11_4 (4 * f + q) (by omega), congrFun (fr11 54 (by decide)).2 (M 39 v)])  | (rw [if_neg (show ¬ M 39 v < 2 by omega), if_pos (show y = 0 by omega), i11_4 (4 * f + q) (by omega), congrFun (fr11 54 (by decide)).2 (M 39 v)])) i11_3) (by exact fun j hj => by rw [uz_n (by omega)]; exact i11_4 j hj)
          · refine Z_iconst (n := 29) dX4_makeHalf_28 rfl (by decide) ?_
            refine Z_goto (t := 33) dX4_makeHalf_29 (by decide) ?_
            refine Z_istore (L' := [_, _, _, _, _, _, _, _, _, _]) (n := 35) dX4_makeHalf_33 rfl (by decide) rfl rfl ?_
            refine Z_aload_n (n := 36) dX4_makeHalf_35 rfl rfl ?_
            refine Z_getA (n := 39) dX4_makeHalf_36 rfl ffX4_47 rfl rfl ?_
            refine Z_iconst (n := 40) dX4_makeHalf_39 rfl (by decide) ?_
            refine Z_iload_n (n := 41) dX4_makeHalf_40 rfl rfl ?_
            refine Z_imul (n := 42) dX4_makeHalf_41 rfl (by omega) ?_
            refine Z_iload (n := 44) dX4_makeHalf_42 rfl rfl ?_
            refine Z_iadd (n := 45) dX4_makeHalf_44 rfl (by omega) ?_
            refine Z_aload_n (n := 46) dX4_makeHalf_45 rfl rfl ?_
            refine Z_getA (n := 49) dX4_makeHalf_46 rfl ffX4_47 rfl rfl ?_
            refine Z_iconst (n := 50) dX4_makeHalf_49 rfl (by decide) ?_
            refine Z_iload_n (n := 51) dX4_makeHalf_50 rfl rfl ?_
            refine Z_imul (n := 52) dX4_makeHalf_51 rfl (by omega) ?_
            refine Z_iload (n := 54) dX4_makeHalf_52 rfl rfl ?_
            refine Z_if_eq (n := 57) (t := 65) dX4_makeHalf_54 rfl (by decide) (fun c54 => ?_) (fun c54 => ?_)
            · have hz2 : 0 ≤ zand q (zxor 2 (-1)) ∧ zand q (zxor 2 (-1)) < 4 := zandn_2 (by omega) (by omega) (by decide)
              have hz1 : 0 ≤ zand q (zxor 1 (-1)) ∧ zand q (zxor 1 (-1)) < 4 := zandn_2 (by omega) (by omega) (by decide)
              refine Z_iload (n := 67) dX4_makeHalf_65 rfl rfl ?_
              refine Z_iload (n := 69) dX4_makeHalf_67 rfl rfl ?_
              refine Z_iconst (n := 70) dX4_makeHalf_69 rfl (by decide) ?_
              refine Z_ixor (n := 71) dX4_makeHalf_70 rfl ?_
              refine Z_iand (n := 72) dX4_makeHalf_71 rfl ?_
              refine Z_iadd (n := 73) dX4_makeHalf_72 rfl (by omega) ?_
              refine Z_lald (n := 74) dX4_makeHalf_73 rfl rfl (by decide) (by omega) (by omega) ?_
              refine Z_last (n := 75) dX4_makeHalf_74 rfl rfl (by decide) (by omega) (by omega) (by decide) ?_
              refine Z_goto (t := 162) dX4_makeHalf_75 (by decide) ?_
              refine Z_iinc (L' := [_, _, _, _, _, _, _, _, _, _]) (n := 165) dX4_makeHalf_162 rfl rfl (by decide) rfl rfl (by omega) rfl ?_
              refine Z_goto (t := 11) dX4_makeHalf_165 (by decide) ?_
              refine Z_loc (L' := [some _, some _, some _, some _, some _, some _, some _, none, none, none]) (lsub_same (lsub_same (lsub_same (lsub_same (lsub_same (lsub_same (lsub_same (lsub_none (lsub_none (lsub_none lsub_nil)))))))))) ?_
              exact ih11 _ _ _ (by omega) (by first | rfl | assumption) (by first | assumption | omega | decide) (by first | assumption | omega | decide) (by exact st_step (by unfold hfW bitF; first  | (exfalso; omega)  | (rw [if_pos (show M 39 v < 2 by omega), if_neg (show ¬ y = 0 by omega), if_pos (show M 39 v = 0 by omega)]; exact i11_4 _ (by omega))  | (rw [if_pos (show M 39 v < 2 by omega), if_neg (show ¬ y = 0 by omega), if_neg (show ¬ M 39 v = 0 by omega)]; exact i11_4 _ (by omega))  | (rw [if_pos (show M 39 v < 2 by omega), if_pos (show y = 0 by omega), if_pos (show M 39 v = 0 by omega)]; exact i11_4 _ (by omega))  | (rw [if_pos (show M 39 v < 2 by omega), if_pos (show y = 0 by omega), if_neg (show ¬ M 39 v = 0 by omega)]; exact i11_4 _ (by omega))  | (rw [if_neg (show ¬ M 39 v < 2 by omega), if_neg (show ¬ y = 0 by omega), i11_4 (4 * f + q) (by omega), congrFun (fr11 54 (by decide)).2 (M 39 v)])  | (rw [if_neg (show ¬ M 39 v < 2 by omega), if_pos (show y = 0 by omega), i11_4 (4 * f + q) (by omega), congrFun (fr11 54 (by decide)).2 (M 39 v)])) i11_3) (by exact fun j hj => by rw [uz_n (by omega)]; exact i11_4 j hj)
            · have hz2 : 0 ≤ zor q 2 ∧ zor q 2 < 4 := zor_2 (by omega) (by omega) (by decide)
              have hz1 : 0 ≤ zor q 1 ∧ zor q 1 < 4 := zor_2 (by omega) (by omega) (by decide)
              refine Z_iload (n := 59) dX4_makeHalf_57 rfl rfl ?_
              refine Z_iload (n := 61) dX4_makeHalf_59 rfl rfl ?_
              refine Z_ior (n := 62) dX4_makeHalf_61 rfl ?_
              refine Z_goto (t := 72) dX4_makeHalf_62 (by decide) ?_
              refine Z_iadd (n := 73) dX4_makeHalf_72 rfl (by omega) ?_
              refine Z_lald (n := 74) dX4_makeHalf_73 rfl rfl (by decide) (by omega) (by omega) ?_
              refine Z_last (n := 75) dX4_makeHalf_74 rfl rfl (by decide) (by omega) (by omega) (by decide) ?_
              refine Z_goto (t := 162) dX4_makeHalf_75 (by decide) ?_
              refine Z_iinc (L' := [_, _, _, _, _, _, _, _, _, _]) (n := 165) dX4_makeHalf_162 rfl rfl (by decide) rfl rfl (by omega) rfl ?_
              refine Z_goto (t := 11) dX4_makeHalf_165 (by decide) ?_
              refine Z_loc (L' := [some _, some _, some _, some _, some _, some _, some _, none, none, none]) (lsub_same (lsub_same (lsub_same (lsub_same (lsub_same (lsub_same (lsub_same (lsub_none (lsub_none (lsub_none lsub_nil)))))))))) ?_
              exact ih11 _ _ _ (by omega) (by first | rfl | assumption) (by first | assumption | omega | decide) (by first | assumption | omega | decide) (by exact st_step (by unfold hfW bitF; first  | (exfalso; omega)  | (rw [if_pos (show M 39 v < 2 by omega), if_neg (show ¬ y = 0 by omega), if_pos (show M 39 v = 0 by omega)]; exact i11_4 _ (by omega))  | (rw [if_pos (show M 39 v < 2 by omega), if_neg (show ¬ y = 0 by omega), if_neg (show ¬ M 39 v = 0 by omega)]; exact i11_4 _ (by omega))  | (rw [if_pos (show M 39 v < 2 by omega), if_pos (show y = 0 by omega), if_pos (show M 39 v = 0 by omega)]; exact i11_4 _ (by omega))  | (rw [if_pos (show M 39 v < 2 by omega), if_pos (show y = 0 by omega), if_neg (show ¬ M 39 v = 0 by omega)]; exact i11_4 _ (by omega))  | (rw [if_neg (show ¬ M 39 v < 2 by omega), if_neg (show ¬ y = 0 by omega), i11_4 (4 * f + q) (by omega), congrFun (fr11 54 (by decide)).2 (M 39 v)])  | (rw [if_neg (show ¬ M 39 v < 2 by omega), if_pos (show y = 0 by omega), i11_4 (4 * f + q) (by omega), congrFun (fr11 54 (by decide)).2 (M 39 v)])) i11_3) (by exact fun j hj => by rw [uz_n (by omega)]; exact i11_4 j hj)
  refine Z_loc (L' := [some _, some _, some _, some _, some _, some _, some _, none, none, none]) (lsub_same (lsub_same (lsub_same (lsub_same (lsub_same (lsub_same (lsub_same (lsub_none (lsub_none (lsub_none lsub_nil)))))))))) ?_
  exact lp11 _ _ _ _ (Nat.lt_succ_self _) (by rfl) (by first | assumption | omega | decide) (by first | assumption | omega | decide) (by exact fun j j0 j1 => by omega) (by exact fun j _ => rfl)
