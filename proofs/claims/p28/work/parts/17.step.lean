/-! ===== the bench: steps ===== -/
abbrev kColl (a : Nat) : Prop := ¬ a = 5 ∧ ¬ a = 9 ∧ ¬ a = 10 ∧ ¬ a = 11
abbrev kKeep (a : Nat) : Prop := ¬ a = 0 ∧ ¬ a = 15
abbrev k0 (a : Nat) : Prop := ¬ a = 0
abbrev k13 (a : Nat) : Prop := ¬ a = 13
abbrev kGive (a : Nat) : Prop := ¬ a = 0 ∧ ¬ a = 9 ∧ ¬ a = 12 ∧ ¬ a = 13
def ordOK (M : zM) : Prop := ∀ v : Int, 0 ≤ v → v < 8 → 0 ≤ M 4 v
theorem ordOK_fr {M M' : zM} (h : ordOK M) (h4 : M' 4 = M 4) : ordOK M' := by
  unfold ordOK
  rw [h4]
  exact h
def noH (M : zM) : Prop := ∀ h : Int, 0 ≤ h → h < 12 → M 12 h = -1
def frsh (M : zM) : Prop := noH M ∧ (∀ g : Int, 0 ≤ g → g < 40 → M 13 g = -1) ∧ M 0 7 = 0
def swp (M : zM) : Prop := M 5 6 = 2 ∧ M 5 7 = 0 ∧ ∀ r : Int, 0 ≤ r → r < 256 → M 11 r = -1
theorem Z_nm {G : tl_G} {mt : tl_M} {R : Room} {cells slots pc : Nat} {K : Nat → Prop} {M0 : zM} {J0 : zJ} {L : List (Option zV)} {st : List zV} {F : zF} {M : zM} {J : zJ} {Z : tl_Z} (k : ∀ M1, M1 = M → TZ G mt R cells slots K M0 J0 pc L st F M1 J Z) : TZ G mt R cells slots K M0 J0 pc L st F M J Z := k M rfl
theorem kn0 : knF (knF (knF (tabF 1) 0 1 85) 0 2 51) 0 4 15 = 0 := by decide +kernel
theorem kn255 : knF (knF (knF (tabF 2) 0 1 85) 0 2 51) 0 4 15 = 255 := by decide +kernel
set_option maxRecDepth 20000 in
theorem zX3_beginSteps {G : tl_G} {M : zM} {J : zJ} {K : Nat → Prop} (hK0 : ¬ K 0) : ZN G yX3_beginSteps mX3_beginSteps 0 K [vR 0] F1 M J (qV (fun M' J' => J' = J ∧ M' = uz M 0 8 0)) := by
  refine ZN_of (L := [_]) (by decide) rfl rfl (Nat.le_of_ble_eq_true rfl) rfl (fun hav => ?_)
  refine Z_aload_n (n := 1) dX3_beginSteps_0 rfl rfl ?_
  refine Z_iconst (n := 2) dX3_beginSteps_1 rfl (by decide) ?_
  refine Z_putI (n := 5) (ki := 8) dX3_beginSteps_2 rfl ffX3_46 rfl (by decide) rfl rfl (by first | assumption | omega | decide) (by first | assumption | omega | decide) (by assumption) ?_
  refine Z_vret dX3_beginSteps_5 rfl ?_
  exact ⟨rfl, rfl⟩
set_option maxRecDepth 20000 in
theorem zX3_endSteps {G : tl_G} {M : zM} {J : zJ} {K : Nat → Prop} (hK0 : ¬ K 0) (hK13 : ¬ K 13) : ZN G yX3_endSteps mX3_endSteps 1 K [vR 0] F1 M J (qV (fun M' J' => J' = J ∧ M' = fillz (uz M 0 7 0) 13 40 (-1))) := by
  refine ZN_of (L := [_]) (by decide) rfl rfl (Nat.le_of_ble_eq_true rfl) rfl (fun hav => ?_)
  refine Z_aload_n (n := 1) dX3_endSteps_0 rfl rfl ?_
  refine Z_iconst (n := 2) dX3_endSteps_1 rfl (by decide) ?_
  refine Z_putI (n := 5) (ki := 7) dX3_endSteps_2 rfl ffX3_42 rfl (by decide) rfl rfl (by first | assumption | omega | decide) (by first | assumption | omega | decide) (by assumption) ?_
  refine Z_aload_n (n := 6) dX3_endSteps_5 rfl rfl ?_
  refine Z_getA (n := 9) dX3_endSteps_6 rfl ffX3_33 rfl rfl ?_
  refine Z_iconst (n := 10) dX3_endSteps_9 rfl (by decide) ?_
  refine Z_callSv (n := 13) [_, _] _ dX3_endSteps_10 rfl cwX3_56 rfl rfl (Nat.le_of_ble_eq_true rfl) (by refine ⟨?_, ?_, ?_, ?_⟩ <;> exact Nat.le_of_ble_eq_true rfl) (fun _ h => h) (zJ7_fill_53178  (by rfl) (by decide) (by exact fun _ => rfl) (by decide) (by decide) (by assumption)) ?_
  intro M10 J10 f10 q10
  obtain ⟨e10_1, e10_2⟩ := q10
  replace e10_1 := e10_1.symm; subst e10_1
  replace e10_2 := e10_2.symm; subst e10_2
  refine Z_vret dX3_endSteps_13 rfl ?_
  exact ⟨rfl, rfl⟩
set_option maxRecDepth 20000 in
theorem zX3_keep {G : tl_G} {M : zM} {J : zJ} {v : Int} (h0 : -1 ≤ v) (h1 : v ≤ 251) : ZN G yX3_keep mX3_keep 0 kKeep [vR 0, vI v] F1 M J (qI (fun x M' J' => J' = J ∧ x = v)) := by
  refine ZN_of (L := [_, _]) (by decide) rfl rfl (Nat.le_of_ble_eq_true rfl) rfl (fun hav => ?_)
  refine Z_iload_n (n := 1) dX3_keep_0 rfl rfl ?_
  refine Z_iconst (n := 2) dX3_keep_1 rfl (by decide) ?_
  refine Z_icmp_eq (n := 5) (t := 34) dX3_keep_2 rfl (by decide) (fun c2 => ?_) (fun c2 => ?_)
  · refine Z_iload_n (n := 35) dX3_keep_34 rfl rfl ?_
    refine Z_iret dX3_keep_35 rfl ?_
    exact ⟨rfl, rfl⟩
  · refine Z_aload_n (n := 6) dX3_keep_5 rfl rfl ?_
    refine Z_getI (n := 9) (ki := 7) dX3_keep_6 rfl ffX3_42 rfl rfl rfl (fun r6 s6 => ?_)
    try simp only [uz_oo (show (0 : Nat) ≠ 15 by decide)] at r6 s6 ⊢
    refine Z_bipush (n := 11) dX3_keep_9 rfl (by decide) (by decide) ?_
    refine Z_icmp_ge (n := 14) (t := 34) dX3_keep_11 rfl (by decide) (fun c11 => ?_) (fun c11 => ?_)
    · refine Z_iload_n (n := 35) dX3_keep_34 rfl rfl ?_
      refine Z_iret dX3_keep_35 rfl ?_
      exact ⟨rfl, rfl⟩
    · refine Z_aload_n (n := 15) dX3_keep_14 rfl rfl ?_
      refine Z_getA (n := 18) dX3_keep_15 rfl ffX3_39 rfl rfl ?_
      refine Z_aload_n (n := 19) dX3_keep_18 rfl rfl ?_
      refine Z_getI (n := 22) (ki := 7) dX3_keep_19 rfl ffX3_42 rfl rfl rfl (fun r19 s19 => ?_)
      try simp only [uz_oo (show (0 : Nat) ≠ 15 by decide)] at r19 s19 ⊢
      refine Z_iload_n (n := 23) dX3_keep_22 rfl rfl ?_
      refine Z_iast (n := 24) dX3_keep_23 rfl rfl rfl (by first | decide | assumption) (by omega) (by omega) (by first | assumption | omega | decide) (by first | assumption | omega | decide) (by decide) ?_
      refine Z_aload_n (n := 25) dX3_keep_24 rfl rfl ?_
      refine Z_dup (n := 26) dX3_keep_25 rfl rfl ?_
      refine Z_getI (n := 29) (ki := 7) dX3_keep_26 rfl ffX3_42 rfl rfl rfl (fun r26 s26 => ?_)
      try simp only [uz_oo (show (0 : Nat) ≠ 15 by decide)] at r26 s26 ⊢
      refine Z_iconst (n := 30) dX3_keep_29 rfl (by decide) ?_
      refine Z_iadd (n := 31) dX3_keep_30 rfl (by omega) ?_
      refine Z_putI (n := 34) (ki := 7) dX3_keep_31 rfl ffX3_42 rfl (by decide) rfl rfl (by first | assumption | omega | decide) (by first | assumption | omega | decide) (by decide) ?_
      refine Z_iload_n (n := 35) dX3_keep_34 rfl rfl ?_
      refine Z_iret dX3_keep_35 rfl ?_
      exact ⟨rfl, rfl⟩
set_option maxRecDepth 20000 in
theorem zX3_measured {G : tl_G} {M : zM} {J : zJ} {v : Int} (h0 : -1 ≤ v) (h1 : v ≤ 251) : ZN G yX3_measured mX3_measured 1 k0 [vR 0, vI v] F1 M J (qI (fun x M' J' => J' = J ∧ x = v)) := by
  refine ZN_of (L := [_, _, _]) (by decide) rfl rfl (Nat.le_of_ble_eq_true rfl) rfl (fun hav => ?_)
  refine Z_iload_n (n := 1) dX3_measured_0 rfl rfl ?_
  refine Z_iconst (n := 2) dX3_measured_1 rfl (by decide) ?_
  refine Z_icmp_ne (n := 5) (t := 17) dX3_measured_2 rfl (by decide) (fun c2 => ?_) (fun c2 => ?_)
  · refine Z_aload_n (n := 18) dX3_measured_17 rfl rfl ?_
    refine Z_getO (n := 21) dX3_measured_18 rfl ffX3_25 rfl rfl ?_
    refine Z_callVi (n := 24) [] _ dX3_measured_21 rfl cwX3_158 rfl rfl rfl (Nat.le_of_ble_eq_true rfl) (by refine ⟨?_, ?_, ?_, ?_⟩ <;> exact Nat.le_of_ble_eq_true rfl) (fun _ _ => trivial) (zX2_usedCount  ) ?_
    intro x21 M21 J21 z21 f21 q21
    obtain ⟨e21_1, e21_2, h21⟩ := q21
    replace e21_1 := e21_1.symm; subst e21_1
    replace e21_2 := e21_2.symm; subst e21_2
    refine Z_istore_n (L' := [_, _, _]) (n := 25) dX3_measured_24 rfl (by decide) rfl rfl ?_
    refine Z_aload_n (n := 26) dX3_measured_25 rfl rfl ?_
    refine Z_aload_n (n := 27) dX3_measured_26 rfl rfl ?_
    refine Z_getI (n := 30) (ki := 8) dX3_measured_27 rfl ffX3_46 rfl rfl rfl (fun r27 s27 => ?_)
    refine Z_iload_n (n := 31) dX3_measured_30 rfl rfl ?_
    refine Z_rg 5 7 rfl (fun g57 g57b => ?_)
    refine Z_rg 5 8 rfl (fun g58 g58b => ?_)
    refine Z_rg 0 8 rfl (fun g08 g08b => ?_)
    refine Z_mmax (n := 34) dX3_measured_31 rfl cwX3_212 (Nat.le_of_ble_eq_true rfl) (by refine ⟨?_, ?_, ?_, ?_⟩ <;> first | exact Nat.le_of_ble_eq_true rfl | (simp only [tl_rm]; omega)) (fun x31 h31 => ?_)
    refine Z_putI (n := 37) (ki := 8) dX3_measured_34 rfl ffX3_46 rfl (by decide) rfl rfl (by first | assumption | omega | decide) (by first | assumption | omega | decide) (by decide) ?_
    refine Z_any (fun M34 => ?_)
    refine Z_iload_n (n := 38) dX3_measured_37 rfl rfl ?_
    refine Z_iret dX3_measured_38 rfl ?_
    exact ⟨rfl, rfl⟩
  · refine Z_aload_n (n := 6) dX3_measured_5 rfl rfl ?_
    refine Z_getO (n := 9) dX3_measured_6 rfl ffX3_25 rfl rfl ?_
    refine Z_callVi (n := 12) [] _ dX3_measured_9 rfl cwX3_194 rfl rfl rfl (Nat.le_of_ble_eq_true rfl) (by refine ⟨?_, ?_, ?_, ?_⟩ <;> exact Nat.le_of_ble_eq_true rfl) (fun _ _ => trivial) (zX2_limit  ) ?_
    intro x9 M9 J9 z9 f9 q9
    obtain ⟨e9_1, e9_2, h9⟩ := q9
    replace e9_1 := e9_1.symm; subst e9_1
    replace e9_2 := e9_2.symm; subst e9_2
    refine Z_rg 5 8 rfl (fun g58 g58b => ?_)
    refine Z_iconst (n := 13) dX3_measured_12 rfl (by decide) ?_
    refine Z_iadd (n := 14) dX3_measured_13 rfl (by omega) ?_
    refine Z_goto (t := 24) dX3_measured_14 (by decide) ?_
    refine Z_istore_n (L' := [_, _, _]) (n := 25) dX3_measured_24 rfl (by decide) rfl rfl ?_
    refine Z_aload_n (n := 26) dX3_measured_25 rfl rfl ?_
    refine Z_aload_n (n := 27) dX3_measured_26 rfl rfl ?_
    refine Z_getI (n := 30) (ki := 8) dX3_measured_27 rfl ffX3_46 rfl rfl rfl (fun r27 s27 => ?_)
    refine Z_iload_n (n := 31) dX3_measured_30 rfl rfl ?_
    refine Z_rg 5 7 rfl (fun g57 g57b => ?_)
    refine Z_rg 5 8 rfl (fun g58 g58b => ?_)
    refine Z_rg 0 8 rfl (fun g08 g08b => ?_)
    refine Z_mmax (n := 34) dX3_measured_31 rfl cwX3_212 (Nat.le_of_ble_eq_true rfl) (by refine ⟨?_, ?_, ?_, ?_⟩ <;> first | exact Nat.le_of_ble_eq_true rfl | (simp only [tl_rm]; omega)) (fun x31 h31 => ?_)
    refine Z_putI (n := 37) (ki := 8) dX3_measured_34 rfl ffX3_46 rfl (by decide) rfl rfl (by first | assumption | omega | decide) (by first | assumption | omega | decide) (by decide) ?_
    refine Z_any (fun M34 => ?_)
    refine Z_iload_n (n := 38) dX3_measured_37 rfl rfl ?_
    refine Z_iret dX3_measured_38 rfl ?_
    exact ⟨rfl, rfl⟩
set_option maxRecDepth 20000 in
theorem zX3_collect {G : tl_G} {M : zM} {J : zJ}  (hI : pI M) : ZN G yX3_collect mX3_collect 10 kColl [vR 0] F1 M J (qV (fun M' J' => J' = J ∧ pI M' ∧ M' 5 8 = M 5 8 ∧ (frsh M → swp M'))) := by
  refine ZN_of (L := [_, _]) (by decide) rfl rfl (Nat.le_of_ble_eq_true rfl) rfl (fun hav => ?_)
  refine Z_aload_n (n := 1) dX3_collect_0 rfl rfl ?_
  refine Z_getO (n := 4) dX3_collect_1 rfl ffX3_25 rfl rfl ?_
  refine Z_callVv (n := 7) [] _ dX3_collect_4 rfl cwX3_217 rfl rfl rfl (Nat.le_of_ble_eq_true rfl) (by refine ⟨?_, ?_, ?_, ?_⟩ <;> exact Nat.le_of_ble_eq_true rfl) (fun _ h => h) (zX2_unmark  (by decide)) ?_
  intro M4 J4 f4 q4
  obtain ⟨e4_1, e4_2⟩ := q4
  replace e4_1 := e4_1.symm; subst e4_1
  replace e4_2 := e4_2.symm; subst e4_2
  have st0 : frsh M → ∀ j : Int, 2 ≤ j → j < 252 → fillz M 9 252 0 9 j = 0 := fun _ j j0 j1 => fillz_a (by omega) (by omega)
  refine Z_iconst (n := 8) dX3_collect_7 rfl (by decide) ?_
  refine Z_istore_n (L' := [_, _]) (n := 9) dX3_collect_8 rfl (by decide) rfl rfl ?_
  have lp9 : ∀ (N9 : Nat) (h : Int) (M9 : zM) (J9 : zJ), ((12 - h).toNat) < N9 → (J9 = J) → (0 ≤ h) → (h ≤ 12) → ((frsh M → ∀ j : Int, 2 ≤ j → j < 252 → M9 9 j = 0)) → (M9 5 8 = M 5 8) → TZ G mX3_collect (tl_rm 10 0 0) 0 0 kColl M J 9 [some (vR 0), some (vI h)] [] F1 M9 J9 (ZM G (zPost G kColl F1 M J (qV (fun M' J' => J' = J ∧ pI M' ∧ M' 5 8 = M 5 8 ∧ (frsh M → swp M')))) 0 0) := by
    intro N9
    induction N9 with
    | zero => intro h M9 J9 hN; omega
    | succ N9 ih9 =>
      intro h M9 J9 hN9 i9_0 i9_1 i9_2 i9_3 i9_4
      refine Z_iload_n (n := 10) dX3_collect_9 rfl rfl ?_
      refine Z_bipush (n := 12) dX3_collect_10 rfl (by decide) (by decide) ?_
      refine Z_icmp_ge (n := 15) (t := 34) dX3_collect_12 rfl (by decide) (fun c12 => ?_) (fun c12 => ?_)
      · have st0 := i9_3
        refine Z_iconst (n := 35) dX3_collect_34 rfl (by decide) ?_
        refine Z_istore_n (L' := [_, _]) (n := 36) dX3_collect_35 rfl (by decide) rfl rfl ?_
        have lp36 : ∀ (N36 : Nat) (g : Int) (M36 : zM) (J36 : zJ), ((40 - g).toNat) < N36 → (J36 = J) → (0 ≤ g) → (g ≤ 40) → ((frsh M → ∀ j : Int, 2 ≤ j → j < 252 → M36 9 j = 0)) → (M36 5 8 = M 5 8) → TZ G mX3_collect (tl_rm 10 0 0) 0 0 kColl M J 36 [some (vR 0), some (vI g)] [] F1 M36 J36 (ZM G (zPost G kColl F1 M J (qV (fun M' J' => J' = J ∧ pI M' ∧ M' 5 8 = M 5 8 ∧ (frsh M → swp M')))) 0 0) := by
          intro N36
          induction N36 with
          | zero => intro g M36 J36 hN; omega
          | succ N36 ih36 =>
            intro g M36 J36 hN36 i36_0 i36_1 i36_2 i36_3 i36_4
            refine Z_iload_n (n := 37) dX3_collect_36 rfl rfl ?_
            refine Z_bipush (n := 39) dX3_collect_37 rfl (by decide) (by decide) ?_
            refine Z_icmp_ge (n := 42) (t := 61) dX3_collect_39 rfl (by decide) (fun c39 => ?_) (fun c39 => ?_)
            · have st0 := i36_3
              refine Z_iconst (n := 62) dX3_collect_61 rfl (by decide) ?_
              refine Z_istore_n (L' := [_, _]) (n := 63) dX3_collect_62 rfl (by decide) rfl rfl ?_
              have lp63 : ∀ (N63 : Nat) (q : Int) (M63 : zM) (J63 : zJ), ((8 - q).toNat) < N63 → (J63 = J) → (0 ≤ q) → (q ≤ 8) → ((frsh M → ∀ j : Int, 2 ≤ j → j < 252 → M63 9 j = 0)) → (M63 5 8 = M 5 8) → TZ G mX3_collect (tl_rm 10 0 0) 0 0 kColl M J 63 [some (vR 0), some (vI q)] [] F1 M63 J63 (ZM G (zPost G kColl F1 M J (qV (fun M' J' => J' = J ∧ pI M' ∧ M' 5 8 = M 5 8 ∧ (frsh M → swp M')))) 0 0) := by
                intro N63
                induction N63 with
                | zero => intro q M63 J63 hN; omega
                | succ N63 ih63 =>
                  intro q M63 J63 hN63 i63_0 i63_1 i63_2 i63_3 i63_4
                  refine Z_iload_n (n := 64) dX3_collect_63 rfl rfl ?_
                  refine Z_aload_n (n := 65) dX3_collect_64 rfl rfl ?_
                  refine Z_getI (n := 68) (ki := 7) dX3_collect_65 rfl ffX3_42 rfl rfl rfl (fun r65 s65 => ?_)
                  refine Z_icmp_ge (n := 71) (t := 90) dX3_collect_68 rfl (by decide) (fun c68 => ?_) (fun c68 => ?_)
                  · refine Z_fr (fun fr63 => ?_)
                    have e60 : M63 6 0 = 8 := (congrFun (fr63 6 (by decide)).1 0).trans hI.1
                    have e61 : M63 6 1 = 8 := (congrFun (fr63 6 (by decide)).1 1).trans hI.2.1
                    refine Z_rg 5 8 rfl (fun g58 g58b => ?_)
                    refine Z_aload_n (n := 91) dX3_collect_90 rfl rfl ?_
                    refine Z_getO (n := 94) dX3_collect_91 rfl ffX3_25 rfl rfl ?_
                    refine Z_callVv (n := 97) [] _ dX3_collect_94 rfl cwX3_224 rfl rfl rfl (Nat.le_of_ble_eq_true rfl) (by refine ⟨?_, ?_, ?_, ?_⟩ <;> exact Nat.le_of_ble_eq_true rfl) (fun a h => by unfold kColl at h; unfold kSweep; omega) (zX2_sweep  (by exact PoolF1)) ?_
                    intro M94 J94 f94 q94
                    obtain ⟨e94_1, h94⟩ := q94
                    replace e94_1 := e94_1.symm; subst e94_1
                    refine Z_vret dX3_collect_97 rfl ?_
                    obtain ⟨q1, q2, q3⟩ := h94
                    exact ⟨i63_0, q2 e60 e61, q1.trans i63_4, fun a => q3 (i63_3 a)⟩
                  · refine Z_fr (fun fr63 => ?_)
                    refine Z_aload_n (n := 72) dX3_collect_71 rfl rfl ?_
                    refine Z_getO (n := 75) dX3_collect_72 rfl ffX3_25 rfl rfl ?_
                    refine Z_aload_n (n := 76) dX3_collect_75 rfl rfl ?_
                    refine Z_getA (n := 79) dX3_collect_76 rfl ffX3_39 rfl rfl ?_
                    refine Z_iload_n (n := 80) dX3_collect_79 rfl rfl ?_
                    refine Z_iald (n := 81) dX3_collect_80 rfl rfl rfl (by first | decide | assumption) (by omega) (by omega) (fun r80 s80 => ?_)
                    refine Z_callVv (n := 84) [_] _ dX3_collect_81 rfl cwX3_220 rfl rfl rfl (Nat.le_of_ble_eq_true rfl) (by refine ⟨?_, ?_, ?_, ?_⟩ <;> exact Nat.le_of_ble_eq_true rfl) (fun a h => by unfold kColl at h; unfold kMarks; omega) (zX2_mark  (by first | assumption | omega | decide) (by first | assumption | omega | decide)) ?_
                    intro M81 J81 f81 q81
                    obtain ⟨e81_1, h81⟩ := q81
                    replace e81_1 := e81_1.symm; subst e81_1
                    have nx63 : frsh M → ∀ j : Int, 2 ≤ j → j < 252 → M81 9 j = 0 := by
                      intro hfr
                      have := hfr.2.2
                      rw [congrFun (fr63 0 (by decide)).1 7] at c68
                      omega
                    refine Z_iinc (L' := [_, _]) (n := 87) dX3_collect_84 rfl rfl (by decide) rfl rfl (by omega) rfl ?_
                    refine Z_goto (t := 63) dX3_collect_87 (by decide) ?_
                    refine Z_loc (L' := [some _, some _]) (lsub_same (lsub_same lsub_nil)) ?_
                    exact ih63 _ _ _ (by omega) (by first | rfl | assumption) (by first | assumption | omega | decide) (by first | assumption | omega | decide) (by first | exact st0 | exact nx63 | assumption) (by first | rfl | exact (congrFun (f81 5 (by decide)).1 8).trans i63_4 | assumption | (rw [fillz_o (by decide)]))
              refine Z_loc (L' := [some _, some _]) (lsub_same (lsub_same lsub_nil)) ?_
              exact lp63 _ _ _ _ (Nat.lt_succ_self _) (by first | rfl | assumption) (by first | assumption | omega | decide) (by first | assumption | omega | decide) (by first | exact st0 | exact nx63 | assumption) (by first | rfl | exact (congrFun (f81 5 (by decide)).1 8).trans i63_4 | assumption | (rw [fillz_o (by decide)]))
            · refine Z_fr (fun fr36 => ?_)
              refine Z_aload_n (n := 43) dX3_collect_42 rfl rfl ?_
              refine Z_getO (n := 46) dX3_collect_43 rfl ffX3_25 rfl rfl ?_
              refine Z_aload_n (n := 47) dX3_collect_46 rfl rfl ?_
              refine Z_getA (n := 50) dX3_collect_47 rfl ffX3_33 rfl rfl ?_
              refine Z_iload_n (n := 51) dX3_collect_50 rfl rfl ?_
              refine Z_iald (n := 52) dX3_collect_51 rfl rfl rfl (by first | decide | assumption) (by omega) (by omega) (fun r51 s51 => ?_)
              refine Z_callVv (n := 55) [_] _ dX3_collect_52 rfl cwX3_220 rfl rfl rfl (Nat.le_of_ble_eq_true rfl) (by refine ⟨?_, ?_, ?_, ?_⟩ <;> exact Nat.le_of_ble_eq_true rfl) (fun a h => by unfold kColl at h; unfold kMarks; omega) (zX2_mark  (by first | assumption | omega | decide) (by first | assumption | omega | decide)) ?_
              intro M52 J52 f52 q52
              obtain ⟨e52_1, h52⟩ := q52
              replace e52_1 := e52_1.symm; subst e52_1
              have nx36 : frsh M → ∀ j : Int, 2 ≤ j → j < 252 → M52 9 j = 0 := by
                intro hfr j j0 j1
                have hz : M36 13 g < 2 := by rw [congrFun (fr36 13 (by decide)).1 g, hfr.2.1 g (by omega) (by omega)]; decide
                rw [h52 hz]
                exact i36_3 hfr j j0 j1
              refine Z_iinc (L' := [_, _]) (n := 58) dX3_collect_55 rfl rfl (by decide) rfl rfl (by omega) rfl ?_
              refine Z_goto (t := 36) dX3_collect_58 (by decide) ?_
              refine Z_loc (L' := [some _, some _]) (lsub_same (lsub_same lsub_nil)) ?_
              exact ih36 _ _ _ (by omega) (by first | rfl | assumption) (by first | assumption | omega | decide) (by first | assumption | omega | decide) (by first | exact st0 | exact nx36 | assumption) (by first | rfl | exact (congrFun (f52 5 (by decide)).1 8).trans i36_4 | assumption | (rw [fillz_o (by decide)]))
        refine Z_loc (L' := [some _, some _]) (lsub_same (lsub_same lsub_nil)) ?_
        exact lp36 _ _ _ _ (Nat.lt_succ_self _) (by first | rfl | assumption) (by first | assumption | omega | decide) (by first | assumption | omega | decide) (by first | exact st0 | exact nx36 | assumption) (by first | rfl | exact (congrFun (f52 5 (by decide)).1 8).trans i36_4 | assumption | (rw [fillz_o (by decide)]))
      · refine Z_fr (fun fr9 => ?_)
        refine Z_aload_n (n := 16) dX3_collect_15 rfl rfl ?_
        refine Z_getO (n := 19) dX3_collect_16 rfl ffX3_25 rfl rfl ?_
        refine Z_aload_n (n := 20) dX3_collect_19 rfl rfl ?_
        refine Z_getA (n := 23) dX3_collect_20 rfl ffX3_29 rfl rfl ?_
        refine Z_iload_n (n := 24) dX3_collect_23 rfl rfl ?_
        refine Z_iald (n := 25) dX3_collect_24 rfl rfl rfl (by first | decide | assumption) (by omega) (by omega) (fun r24 s24 => ?_)
        refine Z_callVv (n := 28) [_] _ dX3_collect_25 rfl cwX3_220 rfl rfl rfl (Nat.le_of_ble_eq_true rfl) (by refine ⟨?_, ?_, ?_, ?_⟩ <;> exact Nat.le_of_ble_eq_true rfl) (fun a h => by unfold kColl at h; unfold kMarks; omega) (zX2_mark  (by first | assumption | omega | decide) (by first | assumption | omega | decide)) ?_
        intro M25 J25 f25 q25
        obtain ⟨e25_1, h25⟩ := q25
        replace e25_1 := e25_1.symm; subst e25_1
        have nx9 : frsh M → ∀ j : Int, 2 ≤ j → j < 252 → M25 9 j = 0 := by
          intro hfr j j0 j1
          have hz : M9 12 h < 2 := by rw [congrFun (fr9 12 (by decide)).1 h, hfr.1 h (by omega) (by omega)]; decide
          rw [h25 hz]
          exact i9_3 hfr j j0 j1
        refine Z_iinc (L' := [_, _]) (n := 31) dX3_collect_28 rfl rfl (by decide) rfl rfl (by omega) rfl ?_
        refine Z_goto (t := 9) dX3_collect_31 (by decide) ?_
        refine Z_loc (L' := [some _, some _]) (lsub_same (lsub_same lsub_nil)) ?_
        exact ih9 _ _ _ (by omega) (by first | rfl | assumption) (by first | assumption | omega | decide) (by first | assumption | omega | decide) (by first | exact st0 | exact nx9 | assumption) (by first | rfl | exact (congrFun (f25 5 (by decide)).1 8).trans i9_4 | assumption | (rw [fillz_o (by decide)]))
  refine Z_loc (L' := [some _, some _]) (lsub_same (lsub_same lsub_nil)) ?_
  exact lp9 _ _ _ _ (Nat.lt_succ_self _) (by first | rfl | assumption) (by first | assumption | omega | decide) (by first | assumption | omega | decide) (by first | exact st0 | exact nx9 | assumption) (by first | rfl | exact (congrFun (f25 5 (by decide)).1 8).trans i9_4 | assumption | (rw [fillz_o (by decide)]))
set_option maxRecDepth 20000 in
theorem zX3_inUse {G : tl_G} {M : zM} {J : zJ}  (hI : pI M) : ZN G yX3_inUse mX3_inUse 11 kColl [vR 0] F1 M J (qI (fun x M' J' => J' = J ∧ pI M' ∧ M' 5 8 = M 5 8 ∧ x = M' 5 7 ∧ (frsh M → x = 0))) := by
  refine ZN_of (L := [_]) (by decide) rfl rfl (Nat.le_of_ble_eq_true rfl) rfl (fun hav => ?_)
  refine Z_aload_n (n := 1) dX3_inUse_0 rfl rfl ?_
  refine Z_callVv (n := 4) [] _ dX3_inUse_1 rfl cwX3_155 rfl rfl rfl (Nat.le_of_ble_eq_true rfl) (by refine ⟨?_, ?_, ?_, ?_⟩ <;> exact Nat.le_of_ble_eq_true rfl) (fun _ h => h) (zX3_collect  (by first | assumption | omega | decide)) ?_
  intro M1 J1 f1 q1
  obtain ⟨e1_1, ci1, b1, sw1⟩ := q1
  replace e1_1 := e1_1.symm; subst e1_1
  refine Z_aload_n (n := 5) dX3_inUse_4 rfl rfl ?_
  refine Z_getO (n := 8) dX3_inUse_5 rfl ffX3_25 rfl rfl ?_
  refine Z_callVi (n := 11) [] _ dX3_inUse_8 rfl cwX3_158 rfl rfl rfl (Nat.le_of_ble_eq_true rfl) (by refine ⟨?_, ?_, ?_, ?_⟩ <;> exact Nat.le_of_ble_eq_true rfl) (fun _ _ => trivial) (zX2_usedCount  ) ?_
  intro x8 M8 J8 z8 f8 q8
  obtain ⟨e8_1, e8_2, h8⟩ := q8
  replace e8_1 := e8_1.symm; subst e8_1
  replace e8_2 := e8_2.symm; subst e8_2
  refine Z_iret dX3_inUse_11 rfl ?_
  exact ⟨rfl, ci1, b1, h8, fun a => h8.trans (sw1 a).2.1⟩
set_option maxRecDepth 20000 in
theorem zX3_kindStep {G : tl_G} {M : zM} {J : zJ} {t u v w : Int} (ht0 : 0 ≤ t) (ht1 : t ≤ 10) (h0 : -1 ≤ u) (h1 : u ≤ 251) (h2 : -1 ≤ v) (h3 : v ≤ 251) (h4 : -1 ≤ w) (h5 : w ≤ 251) (hI : pI M) : ZN G yX3_kindStep mX3_kindStep 12 kStep [vR 0, vI t, vI u, vI v, vI w] F1 M J (qI (fun x M' J' => J' = J ∧ -1 ≤ x ∧ x ≤ 251 ∧ pI M' ∧ (u = 0 → v = 0 → w = 0 → t = 1 → x = 0) ∧ (u = 0 → v = 0 → w = 0 → t = 2 → x = 1))) := by
  refine ZN_of (L := [_, _, _, _, _]) (by decide) rfl rfl (Nat.le_of_ble_eq_true rfl) rfl (fun hav => ?_)
  refine Z_iload_n (n := 1) dX3_kindStep_0 rfl rfl ?_
  refine Z_iconst (n := 2) dX3_kindStep_1 rfl (by decide) ?_
  refine Z_icmp_eq (n := 5) (t := 16) dX3_kindStep_2 rfl (by decide) (fun c2 => ?_) (fun c2 => ?_)
  · refine Z_iconst (n := 17) dX3_kindStep_16 rfl (by decide) ?_
    refine Z_iret dX3_kindStep_17 rfl ?_
    refine ⟨rfl, by omega, by omega, hI, fun _ _ _ _ => by omega, fun _ _ _ _ => by omega⟩
  · refine Z_iload_n (n := 6) dX3_kindStep_5 rfl rfl ?_
    refine Z_iconst (n := 7) dX3_kindStep_6 rfl (by decide) ?_
    refine Z_icmp_eq (n := 10) (t := 16) dX3_kindStep_7 rfl (by decide) (fun c7 => ?_) (fun c7 => ?_)
    · refine Z_iconst (n := 17) dX3_kindStep_16 rfl (by decide) ?_
      refine Z_iret dX3_kindStep_17 rfl ?_
      refine ⟨rfl, by omega, by omega, hI, fun _ _ _ _ => by omega, fun _ _ _ _ => by omega⟩
    · refine Z_iload (n := 12) dX3_kindStep_10 rfl rfl ?_
      refine Z_iconst (n := 13) dX3_kindStep_12 rfl (by decide) ?_
      refine Z_icmp_ne (n := 16) (t := 18) dX3_kindStep_13 rfl (by decide) (fun c13 => ?_) (fun c13 => ?_)
      · refine Z_aload_n (n := 19) dX3_kindStep_18 rfl rfl ?_
        refine Z_callVv (n := 22) [] _ dX3_kindStep_19 rfl cwX3_155 rfl rfl rfl (Nat.le_of_ble_eq_true rfl) (by refine ⟨?_, ?_, ?_, ?_⟩ <;> exact Nat.le_of_ble_eq_true rfl) (fun a h => by unfold kStep at h; unfold kColl; omega) (zX3_collect  (by first | assumption | omega | decide)) ?_
        intro M19 J19 f19 q19
        obtain ⟨e19_1, ci19, b19, sw19⟩ := q19
        replace e19_1 := e19_1.symm; subst e19_1
        refine Z_aload_n (n := 23) dX3_kindStep_22 rfl rfl ?_
        refine Z_aload_n (n := 24) dX3_kindStep_23 rfl rfl ?_
        refine Z_getO (n := 27) dX3_kindStep_24 rfl ffX3_25 rfl rfl ?_
        refine Z_gets (i := 2) (n := 30) dX3_kindStep_27 rfl (by decide) (by decide) sfX3_197 ?_
        refine Z_iload_n (n := 31) dX3_kindStep_30 rfl rfl ?_
        refine Z_ialdS2 (n := 32) dX3_kindStep_31 rfl (by omega) (by omega) (fun r31 s31 => ?_)
        refine Z_iload_n (n := 33) dX3_kindStep_32 rfl rfl ?_
        refine Z_iload_n (n := 34) dX3_kindStep_33 rfl rfl ?_
        refine Z_iload (n := 36) dX3_kindStep_34 rfl rfl ?_
        refine Z_callVi (n := 39) [_, _, _, _] _ dX3_kindStep_36 rfl cwX3_200 rfl rfl rfl (Nat.le_of_ble_eq_true rfl) (by refine ⟨?_, ?_, ?_, ?_⟩ <;> exact Nat.le_of_ble_eq_true rfl) (fun a h => by unfold kStep at h; unfold kPool; omega) (zX2_make  (by omega) (by omega) (by omega) (by omega) (by omega) (by omega) (by assumption)) ?_
        intro x36 M36 J36 z36 f36 q36
        obtain ⟨e36_1, l36, u36, pi36, kn36⟩ := q36
        replace e36_1 := e36_1.symm; subst e36_1
        refine Z_callVi (n := 42) [_] _ dX3_kindStep_39 rfl cwX3_203 rfl rfl rfl (Nat.le_of_ble_eq_true rfl) (by refine ⟨?_, ?_, ?_, ?_⟩ <;> exact Nat.le_of_ble_eq_true rfl) (fun a h => by unfold kStep at h; unfold k0; omega) (zX3_measured  (by first | assumption | omega | decide) (by first | assumption | omega | decide)) ?_
        intro x39 M39 J39 z39 f39 q39
        obtain ⟨e39_1, h39⟩ := q39
        replace e39_1 := e39_1.symm; subst e39_1
        refine Z_iret dX3_kindStep_42 rfl ?_
        refine ⟨rfl, by omega, by omega, pI_fr pi36 (f39 5 (by decide)).1 (f39 6 (by decide)).1 (f39 10 (by decide)).1 (f39 11 (by decide)).1, fun a b c d => ?_, fun a b c d => ?_⟩
        · subst a b c d; rw [h39]; exact (kn36.1 kn0).1
        · subst a b c d; rw [h39]; exact (kn36.2 kn255).1
      · refine Z_iconst (n := 17) dX3_kindStep_16 rfl (by decide) ?_
        refine Z_iret dX3_kindStep_17 rfl ?_
        refine ⟨rfl, by omega, by omega, hI, fun _ _ _ _ => by omega, fun _ _ _ _ => by omega⟩
set_option maxRecDepth 20000 in
theorem zX3_variableStep {G : tl_G} {M : zM} {J : zJ} {v : Int} (h0 : 0 ≤ v) (h1 : v < 8) (hI : pI M) (hO : ordOK M) : ZN G yX3_variableStep mX3_variableStep 11 kStep [vR 0, vI v] F1 M J (qI (fun x M' J' => J' = J ∧ -1 ≤ x ∧ x ≤ 251 ∧ pI M' ∧ (frsh M → M 5 8 = 250 → x = 2 ∧ M' 7 2 = 0 ∧ M' 8 2 = 1))) := by
  refine ZN_of (L := [_, _]) (by decide) rfl rfl (Nat.le_of_ble_eq_true rfl) rfl (fun hav => ?_)
  refine Z_aload_n (n := 1) dX3_variableStep_0 rfl rfl ?_
  refine Z_callVv (n := 4) [] _ dX3_variableStep_1 rfl cwX3_155 rfl rfl rfl (Nat.le_of_ble_eq_true rfl) (by refine ⟨?_, ?_, ?_, ?_⟩ <;> exact Nat.le_of_ble_eq_true rfl) (fun a h => by unfold kStep at h; unfold kColl; omega) (zX3_collect  (by first | assumption | omega | decide)) ?_
  intro M1 J1 f1 q1
  obtain ⟨e1_1, ci1, b1, sw1⟩ := q1
  replace e1_1 := e1_1.symm; subst e1_1
  refine Z_aload_n (n := 5) dX3_variableStep_4 rfl rfl ?_
  refine Z_aload_n (n := 6) dX3_variableStep_5 rfl rfl ?_
  refine Z_getO (n := 9) dX3_variableStep_6 rfl ffX3_25 rfl rfl ?_
  refine Z_aload_n (n := 10) dX3_variableStep_9 rfl rfl ?_
  refine Z_getO (n := 13) dX3_variableStep_10 rfl ffX3_18 rfl rfl ?_
  refine Z_iload_n (n := 14) dX3_variableStep_13 rfl rfl ?_
  refine Z_callVi (n := 17) [_] _ dX3_variableStep_14 rfl cwX3_174 rfl rfl rfl (Nat.le_of_ble_eq_true rfl) (by refine ⟨?_, ?_, ?_, ?_⟩ <;> exact Nat.le_of_ble_eq_true rfl) (fun _ _ => trivial) (zX1_placeOf  (by first | assumption | omega | decide) (by first | assumption | omega | decide)) ?_
  intro x14 M14 J14 z14 f14 q14
  obtain ⟨e14_1, e14_2, h14⟩ := q14
  replace e14_1 := e14_1.symm; subst e14_1
  replace e14_2 := e14_2.symm; subst e14_2
  have hp : 0 ≤ x14 := by rw [h14, (f1 4 (by decide)).1]; exact hO v h0 h1
  refine Z_rg 4 v rfl (fun g4 g4b => ?_)
  refine Z_callVi (n := 20) [_] _ dX3_variableStep_17 rfl cwX3_206 rfl rfl rfl (Nat.le_of_ble_eq_true rfl) (by refine ⟨?_, ?_, ?_, ?_⟩ <;> exact Nat.le_of_ble_eq_true rfl) (fun a h => by unfold kStep at h; unfold kPool; omega) (zX2_makeVariable  (by first | assumption | omega | decide) (by first | assumption | omega | decide) (by first | assumption | omega | decide)) ?_
  intro x17 M17 J17 z17 f17 q17
  obtain ⟨e17_1, l17, u17, pi17, h17⟩ := q17
  replace e17_1 := e17_1.symm; subst e17_1
  refine Z_callVi (n := 23) [_] _ dX3_variableStep_20 rfl cwX3_203 rfl rfl rfl (Nat.le_of_ble_eq_true rfl) (by refine ⟨?_, ?_, ?_, ?_⟩ <;> exact Nat.le_of_ble_eq_true rfl) (fun a h => by unfold kStep at h; unfold k0; omega) (zX3_measured  (by first | assumption | omega | decide) (by first | assumption | omega | decide)) ?_
  intro x20 M20 J20 z20 f20 q20
  obtain ⟨e20_1, h20⟩ := q20
  replace e20_1 := e20_1.symm; subst e20_1
  refine Z_iret dX3_variableStep_23 rfl ?_
  refine ⟨rfl, by omega, by omega, pI_fr (pi17 ci1) (f20 5 (by decide)).1 (f20 6 (by decide)).1 (f20 10 (by decide)).1 (f20 11 (by decide)).1, fun a b => ?_⟩
  have q := sw1 a
  rw [h20, (f20 7 (by decide)).1, (f20 8 (by decide)).1]
  rcases h17 with ⟨e, -⟩ | ⟨e, -⟩ | ⟨-, -, -, -, e⟩ | ⟨-, -, e, -, -, -, e2⟩
  · omega
  · exact absurd (q.2.2 (zxor 0 1) (by decide) (by decide)) e
  · have := q.1; have := q.2.1; omega
  · rw [e2, e, q.1]
    refine ⟨rfl, ?_, ?_⟩
    · unfold entz
      rw [uz_oo (by decide), uz_oo (by decide), uz_oo (by decide)]
      exact mkz_7
    · unfold entz
      rw [uz_oo (by decide), uz_oo (by decide), uz_oo (by decide)]
      exact mkz_8
set_option maxRecDepth 20000 in
theorem zX3_fixStep {G : tl_G} {M : zM} {J : zJ} {n v y : Int} (h0 : 0 ≤ v) (h1 : v < 8) (h2 : 0 ≤ n) (h3 : n ≤ 251) (hI : pI M) (hO : ordOK M) : ZN G yX3_fixStep mX3_fixStep 12 kStep [vR 0, vI n, vI v, vI y] F1 M J (qI (fun x M' J' => J' = J ∧ -1 ≤ x ∧ x ≤ 251 ∧ pI M')) := by
  refine ZN_of (L := [_, _, _, _]) (by decide) rfl rfl (Nat.le_of_ble_eq_true rfl) rfl (fun hav => ?_)
  refine Z_aload_n (n := 1) dX3_fixStep_0 rfl rfl ?_
  refine Z_callVv (n := 4) [] _ dX3_fixStep_1 rfl cwX3_155 rfl rfl rfl (Nat.le_of_ble_eq_true rfl) (by refine ⟨?_, ?_, ?_, ?_⟩ <;> exact Nat.le_of_ble_eq_true rfl) (fun a h => by unfold kStep at h; unfold kColl; omega) (zX3_collect  (by first | assumption | omega | decide)) ?_
  intro M1 J1 f1 q1
  obtain ⟨e1_1, ci1, b1, sw1⟩ := q1
  replace e1_1 := e1_1.symm; subst e1_1
  refine Z_aload_n (n := 5) dX3_fixStep_4 rfl rfl ?_
  refine Z_aload_n (n := 6) dX3_fixStep_5 rfl rfl ?_
  refine Z_getO (n := 9) dX3_fixStep_6 rfl ffX3_25 rfl rfl ?_
  refine Z_iload_n (n := 10) dX3_fixStep_9 rfl rfl ?_
  refine Z_aload_n (n := 11) dX3_fixStep_10 rfl rfl ?_
  refine Z_getO (n := 14) dX3_fixStep_11 rfl ffX3_18 rfl rfl ?_
  refine Z_iload_n (n := 15) dX3_fixStep_14 rfl rfl ?_
  refine Z_callVi (n := 18) [_] _ dX3_fixStep_15 rfl cwX3_174 rfl rfl rfl (Nat.le_of_ble_eq_true rfl) (by refine ⟨?_, ?_, ?_, ?_⟩ <;> exact Nat.le_of_ble_eq_true rfl) (fun _ _ => trivial) (zX1_placeOf  (by first | assumption | omega | decide) (by first | assumption | omega | decide)) ?_
  intro x15 M15 J15 z15 f15 q15
  obtain ⟨e15_1, e15_2, h15⟩ := q15
  replace e15_1 := e15_1.symm; subst e15_1
  replace e15_2 := e15_2.symm; subst e15_2
  have hp : 0 ≤ x15 := by rw [h15, (f1 4 (by decide)).1]; exact hO v h0 (by omega)
  refine Z_rg 4 v rfl (fun g4 g4b => ?_)
  refine Z_iload_n (n := 19) dX3_fixStep_18 rfl rfl ?_
  refine Z_callVi (n := 22) [_, _, _] _ dX3_fixStep_19 rfl cwX3_209 rfl rfl rfl (Nat.le_of_ble_eq_true rfl) (by refine ⟨?_, ?_, ?_, ?_⟩ <;> exact Nat.le_of_ble_eq_true rfl) (fun a h => by unfold kStep at h; unfold kPool; omega) (zX2_makeFixed  (by first | assumption | omega | decide) (by first | assumption | omega | decide) (by first | assumption | omega | decide) (by first | assumption | omega | decide) (by first | assumption | omega | decide)) ?_
  intro x19 M19 J19 z19 f19 q19
  obtain ⟨e19_1, l19, u19, pi19⟩ := q19
  replace e19_1 := e19_1.symm; subst e19_1
  refine Z_callVi (n := 25) [_] _ dX3_fixStep_22 rfl cwX3_203 rfl rfl rfl (Nat.le_of_ble_eq_true rfl) (by refine ⟨?_, ?_, ?_, ?_⟩ <;> exact Nat.le_of_ble_eq_true rfl) (fun a h => by unfold kStep at h; unfold k0; omega) (zX3_measured  (by first | assumption | omega | decide) (by first | assumption | omega | decide)) ?_
  intro x22 M22 J22 z22 f22 q22
  obtain ⟨e22_1, h22⟩ := q22
  replace e22_1 := e22_1.symm; subst e22_1
  refine Z_iret dX3_fixStep_25 rfl ?_
  exact ⟨rfl, by omega, by omega, pI_fr pi19 (f22 5 (by decide)).1 (f22 6 (by decide)).1 (f22 10 (by decide)).1 (f22 11 (by decide)).1⟩
set_option maxRecDepth 20000 in
theorem zX2_markLeaf {G : tl_G} {M : zM} {J : zJ} {s n e : Int} (h0 : 0 ≤ s) (h1 : s ≤ 3) (h2 : 2 ≤ n) (h3 : n ≤ 251) (h4 : e = 0) (h5 : M 7 n < 2) (h6 : M 8 n < 2) (h7 : zand (M 9 n) s = 0) : ZN G yX2_markWith mX2_markWith 8 kMarks [vR 5, vI s, vI n, vI e] F1 M J (qV (fun M' J' => J' = J ∧ M' = uz M 9 n (zor (M 9 n) s))) := by
  refine ZN_of (L := [_, _, _, _]) (by decide) rfl rfl (Nat.le_of_ble_eq_true rfl) rfl (fun hav => ?_)
  refine Z_iload_n (n := 1) dX2_markWith_0 rfl rfl ?_
  refine Z_iconst (n := 2) dX2_markWith_1 rfl (by decide) ?_
  refine Z_icmp_lt (n := 5) (t := 22) dX2_markWith_2 rfl (by decide) (fun c2 => ?_) (fun c2 => ?_)
  · omega
  · refine Z_iload_n (n := 6) dX2_markWith_5 rfl rfl ?_
    refine Z_bipush (n := 8) dX2_markWith_6 rfl (by decide) (by decide) ?_
    refine Z_icmp_ge (n := 11) (t := 22) dX2_markWith_8 rfl (by decide) (fun c8 => ?_) (fun c8 => ?_)
    · omega
    · refine Z_aload_n (n := 12) dX2_markWith_11 rfl rfl ?_
      refine Z_getA (n := 15) dX2_markWith_12 rfl ffX2_21 rfl rfl ?_
      refine Z_iload_n (n := 16) dX2_markWith_15 rfl rfl ?_
      refine Z_iald (n := 17) dX2_markWith_16 rfl rfl rfl (by first | decide | assumption) (by omega) (by omega) (fun r16 s16 => ?_)
      try simp only [uz_oo (show (7 : Nat) ≠ 9 by decide), uz_oo (show (8 : Nat) ≠ 9 by decide)] at r16 s16 ⊢
      refine Z_iload_n (n := 18) dX2_markWith_17 rfl rfl ?_
      refine Z_iand (n := 19) dX2_markWith_18 rfl ?_
      refine Z_if_eq (n := 22) (t := 23) dX2_markWith_19 rfl (by decide) (fun c19 => ?_) (fun c19 => ?_)
      · refine Z_aload_n (n := 24) dX2_markWith_23 rfl rfl ?_
        refine Z_getA (n := 27) dX2_markWith_24 rfl ffX2_21 rfl rfl ?_
        refine Z_iload_n (n := 28) dX2_markWith_27 rfl rfl ?_
        refine Z_dup2 (n := 29) dX2_markWith_28 rfl rfl rfl ?_
        refine Z_iald (n := 30) dX2_markWith_29 rfl rfl rfl (by first | decide | assumption) (by omega) (by omega) (fun r29 s29 => ?_)
        try simp only [uz_oo (show (7 : Nat) ≠ 9 by decide), uz_oo (show (8 : Nat) ≠ 9 by decide)] at r29 s29 ⊢
        refine Z_iload_n (n := 31) dX2_markWith_30 rfl rfl ?_
        refine Z_ior (n := 32) dX2_markWith_31 rfl ?_
        have hz := zor_in3 (x := M 9 n) (y := s) (by omega) (by omega) (by omega) (by omega)
        refine Z_iast (n := 33) dX2_markWith_32 rfl rfl rfl (by first | decide | assumption) (by omega) (by omega) (by first | assumption | omega | decide) (by first | assumption | omega | decide) (by decide) ?_
        refine Z_aload_n (n := 34) dX2_markWith_33 rfl rfl ?_
        refine Z_iload_n (n := 35) dX2_markWith_34 rfl rfl ?_
        refine Z_aload_n (n := 36) dX2_markWith_35 rfl rfl ?_
        refine Z_getA (n := 39) dX2_markWith_36 rfl ffX2_15 rfl rfl ?_
        refine Z_iload_n (n := 40) dX2_markWith_39 rfl rfl ?_
        refine Z_iald (n := 41) dX2_markWith_40 rfl rfl rfl (by first | decide | assumption) (by omega) (by omega) (fun r40 s40 => ?_)
        try simp only [uz_oo (show (7 : Nat) ≠ 9 by decide), uz_oo (show (8 : Nat) ≠ 9 by decide)] at r40 s40 ⊢
        refine Z_iload_n (n := 42) dX2_markWith_41 rfl rfl ?_
        refine Z_iconst (n := 43) dX2_markWith_42 rfl (by decide) ?_
        refine Z_iadd (n := 44) dX2_markWith_43 rfl (by omega) ?_
        refine Z_callVv (n := 47) [_, _, _] _ dX2_markWith_44 rfl cwX2_49 rfl rfl rfl (Nat.le_of_ble_eq_true rfl) (by refine ⟨?_, ?_, ?_, ?_⟩ <;> exact Nat.le_of_ble_eq_true rfl) (fun _ h => h) (zX2_markWith 7  (by first | assumption | omega | decide) (by first | assumption | omega | decide) (by first | assumption | omega | decide) (by first | assumption | omega | decide) (by first | assumption | omega | decide) (by first | assumption | omega | decide)) ?_
        intro M44 J44 f44 q44
        obtain ⟨e44_1, h44⟩ := q44
        replace e44_1 := e44_1.symm; subst e44_1
        have q44 := h44 (by omega)
        subst q44
        refine Z_aload_n (n := 48) dX2_markWith_47 rfl rfl ?_
        refine Z_iload_n (n := 49) dX2_markWith_48 rfl rfl ?_
        refine Z_aload_n (n := 50) dX2_markWith_49 rfl rfl ?_
        refine Z_getA (n := 53) dX2_markWith_50 rfl ffX2_18 rfl rfl ?_
        refine Z_iload_n (n := 54) dX2_markWith_53 rfl rfl ?_
        refine Z_iald (n := 55) dX2_markWith_54 rfl rfl rfl (by first | decide | assumption) (by omega) (by omega) (fun r54 s54 => ?_)
        try simp only [uz_oo (show (7 : Nat) ≠ 9 by decide), uz_oo (show (8 : Nat) ≠ 9 by decide)] at r54 s54 ⊢
        refine Z_iload_n (n := 56) dX2_markWith_55 rfl rfl ?_
        refine Z_iconst (n := 57) dX2_markWith_56 rfl (by decide) ?_
        refine Z_iadd (n := 58) dX2_markWith_57 rfl (by omega) ?_
        refine Z_callVv (n := 61) [_, _, _] _ dX2_markWith_58 rfl cwX2_49 rfl rfl rfl (Nat.le_of_ble_eq_true rfl) (by refine ⟨?_, ?_, ?_, ?_⟩ <;> exact Nat.le_of_ble_eq_true rfl) (fun _ h => h) (zX2_markWith 7  (by first | assumption | omega | decide) (by first | assumption | omega | decide) (by first | assumption | omega | decide) (by first | assumption | omega | decide) (by first | assumption | omega | decide) (by first | assumption | omega | decide)) ?_
        intro M58 J58 f58 q58
        obtain ⟨e58_1, h58⟩ := q58
        replace e58_1 := e58_1.symm; subst e58_1
        have q58 := h58 (by omega)
        subst q58
        refine Z_vret dX2_markWith_61 rfl ?_
        exact ⟨rfl, rfl⟩
      · refine Z_vret dX2_markWith_22 rfl ?_
        omega
theorem ctE_one {f : Int → Int} {s v : Int} : ∀ {n : Nat}, 0 ≤ v → v < n → f v = s → (∀ k : Int, 0 ≤ k → k < n → k ≠ v → ¬ f k = s) → ctE f s n = 1
  | 0, h0, h1, _, _ => by omega
  | n + 1, h0, h1, h2, h3 => by
    unfold ctE
    by_cases e : v = n
    · subst e
      rw [if_pos h2]
      have : ctE f s n = 0 := by
        have hz : ∀ m : Nat, m ≤ n → ctE f s m = 0 := by
          intro m
          induction m with
          | zero => intro _; rfl
          | succ m ih =>
            intro hm
            unfold ctE
            rw [ih (by omega), if_neg (h3 m (by omega) (by omega) (by omega))]
            rfl
        exact hz n (by omega)
      omega
    · rw [ctE_one (n := n) h0 (by omega) h2 (fun k k0 k1 k2 => h3 k k0 (by omega) k2), if_neg (h3 n (by omega) (by omega) (by omega))]
      rfl
theorem zor01 : zor 0 1 = 1 := by decide +kernel
theorem zand01 : zand 0 1 = 0 := by decide +kernel
set_option maxRecDepth 20000 in
theorem zX2_mark1 {G : tl_G} {M : zM} {J : zJ} {n : Int} (h2 : 2 ≤ n) (h3 : n ≤ 251) (h5 : M 7 n < 2) (h6 : M 8 n < 2) (h7 : zand (M 9 n) 1 = 0) : ZN G yX2_mark mX2_mark 9 kMarks [vR 5, vI n] F1 M J (qV (fun M' J' => J' = J ∧ M' = uz M 9 n (zor (M 9 n) 1))) := by
  refine ZN_of (L := [_, _]) (by decide) rfl rfl (Nat.le_of_ble_eq_true rfl) rfl (fun hav => ?_)
  refine Z_aload_n (n := 1) dX2_mark_0 rfl rfl ?_
  refine Z_iconst (n := 2) dX2_mark_1 rfl (by decide) ?_
  refine Z_iload_n (n := 3) dX2_mark_2 rfl rfl ?_
  refine Z_iconst (n := 4) dX2_mark_3 rfl (by decide) ?_
  refine Z_callVv (n := 7) [_, _, _] _ dX2_mark_4 rfl cwX2_49 rfl rfl rfl (Nat.le_of_ble_eq_true rfl) (by refine ⟨?_, ?_, ?_, ?_⟩ <;> exact Nat.le_of_ble_eq_true rfl) (fun _ h => h) (zX2_markLeaf  (by first | assumption | omega | decide) (by first | assumption | omega | decide) (by first | assumption | omega | decide) (by first | assumption | omega | decide) (by first | assumption | omega | decide) (by first | assumption | omega | decide) (by first | assumption | omega | decide) (by first | assumption | omega | decide)) ?_
  intro M4 J4 f4 q4
  obtain ⟨e4_1, e4_2⟩ := q4
  replace e4_1 := e4_1.symm; subst e4_1
  replace e4_2 := e4_2.symm; subst e4_2
  refine Z_vret dX2_mark_7 rfl ?_
  exact ⟨rfl, rfl⟩
set_option maxRecDepth 20000 in
theorem zX2_nodeCount1 {G : tl_G} {M : zM} {J : zJ} {n : Int} (h2 : 2 ≤ n) (h3 : n ≤ 251) (h5 : M 7 n < 2) (h6 : M 8 n < 2) : ZN G yX2_nodeCount mX2_nodeCount 10 kMarks [vR 5, vI n] F1 M J (qI (fun x M' J' => J' = J ∧ x = 1)) := by
  refine ZN_of (L := [_, _]) (by decide) rfl rfl (Nat.le_of_ble_eq_true rfl) rfl (fun hav => ?_)
  refine Z_aload_n (n := 1) dX2_nodeCount_0 rfl rfl ?_
  refine Z_callVv (n := 4) [] _ dX2_nodeCount_1 rfl cwX2_53 rfl rfl rfl (Nat.le_of_ble_eq_true rfl) (by refine ⟨?_, ?_, ?_, ?_⟩ <;> exact Nat.le_of_ble_eq_true rfl) (fun _ h => h) (zX2_unmark  (by first | assumption | omega | decide)) ?_
  intro M1 J1 f1 q1
  obtain ⟨e1_1, e1_2⟩ := q1
  replace e1_1 := e1_1.symm; subst e1_1
  replace e1_2 := e1_2.symm; subst e1_2
  refine Z_aload_n (n := 5) dX2_nodeCount_4 rfl rfl ?_
  refine Z_iload_n (n := 6) dX2_nodeCount_5 rfl rfl ?_
  refine Z_callVv (n := 9) [_] _ dX2_nodeCount_6 rfl cwX2_56 rfl rfl rfl (Nat.le_of_ble_eq_true rfl) (by refine ⟨?_, ?_, ?_, ?_⟩ <;> exact Nat.le_of_ble_eq_true rfl) (fun _ h => h) (zX2_mark1  (by omega) (by omega) (by rw [fillz_o (by decide)]; assumption) (by rw [fillz_o (by decide)]; assumption) (by rw [fillz_a (by omega) (by omega)]; exact zand01)) ?_
  intro M6 J6 f6 q6
  obtain ⟨e6_1, e6_2⟩ := q6
  replace e6_1 := e6_1.symm; subst e6_1
  replace e6_2 := e6_2.symm; subst e6_2
  refine Z_aload_n (n := 10) dX2_nodeCount_9 rfl rfl ?_
  refine Z_iconst (n := 11) dX2_nodeCount_10 rfl (by decide) ?_
  refine Z_callVi (n := 14) [_] _ dX2_nodeCount_11 rfl cwX2_60 rfl rfl rfl (Nat.le_of_ble_eq_true rfl) (by refine ⟨?_, ?_, ?_, ?_⟩ <;> exact Nat.le_of_ble_eq_true rfl) (fun _ _ => trivial) (zX2_markedWith  ) ?_
  intro x11 M11 J11 z11 f11 q11
  obtain ⟨e11_1, e11_2, h11⟩ := q11
  replace e11_1 := e11_1.symm; subst e11_1
  replace e11_2 := e11_2.symm; subst e11_2
  refine Z_iret dX2_nodeCount_14 rfl ?_
  refine ⟨rfl, h11.trans (ctE_one (v := n - 2) (by omega) (by omega) ?_ fun k k0 k1 k2 => ?_)⟩
  · show uz (fillz M 9 252 0) 9 n (zor (fillz M 9 252 0 9 n) 1) 9 (n - 2 + 2) = 1
    rw [show n - 2 + 2 = n by omega, uz_s, fillz_a (by omega) (by omega), zor01]
  · show ¬ uz (fillz M 9 252 0) 9 n (zor (fillz M 9 252 0 9 n) 1) 9 (k + 2) = 1
    rw [uz_n (by omega), fillz_a (by omega) (by omega)]
    decide
set_option maxRecDepth 20000 in
theorem zX3_give {G : tl_G} {M : zM} {J : zJ} {h v : Int} (h0 : 0 ≤ h) (h1 : h < 12) (h2 : -1 ≤ v) (h3 : v ≤ 251) : ZN G yX3_give mX3_give 11 kGive [vR 0, vI h, vI v] F1 M J (qI (fun x M' J' => J' = J ∧ ((v = -1 ∧ x = -5) ∨ (0 ≤ v ∧ 0 ≤ x ∧ x ≤ 250 ∧ (v < 2 → x = 0))))) := by
  refine ZN_of (L := [_, _, _]) (by decide) rfl rfl (Nat.le_of_ble_eq_true rfl) rfl (fun hav => ?_)
  refine Z_aload_n (n := 1) dX3_give_0 rfl rfl ?_
  refine Z_callVv (n := 4) [] _ dX3_give_1 rfl cwX3_188 rfl rfl rfl (Nat.le_of_ble_eq_true rfl) (by refine ⟨?_, ?_, ?_, ?_⟩ <;> exact Nat.le_of_ble_eq_true rfl) (fun _ h => h) (zX3_endSteps  (by decide) (by decide)) ?_
  intro M1 J1 f1 q1
  obtain ⟨e1_1, e1_2⟩ := q1
  replace e1_1 := e1_1.symm; subst e1_1
  replace e1_2 := e1_2.symm; subst e1_2
  refine Z_iload_n (n := 5) dX3_give_4 rfl rfl ?_
  refine Z_iconst (n := 6) dX3_give_5 rfl (by decide) ?_
  refine Z_icmp_ne (n := 9) (t := 12) dX3_give_6 rfl (by decide) (fun c6 => ?_) (fun c6 => ?_)
  · refine Z_aload_n (n := 13) dX3_give_12 rfl rfl ?_
    refine Z_getA (n := 16) dX3_give_13 rfl ffX3_29 rfl rfl ?_
    refine Z_iload_n (n := 17) dX3_give_16 rfl rfl ?_
    refine Z_iload_n (n := 18) dX3_give_17 rfl rfl ?_
    refine Z_iast (n := 19) dX3_give_18 rfl rfl rfl (by first | decide | assumption) (by omega) (by omega) (by first | assumption | omega | decide) (by first | assumption | omega | decide) (by decide) ?_
    refine Z_aload_n (n := 20) dX3_give_19 rfl rfl ?_
    refine Z_getO (n := 23) dX3_give_20 rfl ffX3_25 rfl rfl ?_
    refine Z_iload_n (n := 24) dX3_give_23 rfl rfl ?_
    refine Z_callVi (n := 27) [_] _ dX3_give_24 rfl cwX3_152 rfl rfl rfl (Nat.le_of_ble_eq_true rfl) (by refine ⟨?_, ?_, ?_, ?_⟩ <;> exact Nat.le_of_ble_eq_true rfl) (fun a h => by unfold kGive at h; unfold kMarks; omega) (zX2_nodeCount  (by first | assumption | omega | decide) (by first | assumption | omega | decide)) ?_
    intro x24 M24 J24 z24 f24 q24
    obtain ⟨e24_1, h24⟩ := q24
    replace e24_1 := e24_1.symm; subst e24_1
    refine Z_iret dX3_give_27 rfl ?_
    exact ⟨rfl, Or.inr ⟨by omega, by omega, by omega, fun a => by have := h24.2.2 a; omega⟩⟩
  · refine Z_bipush (n := 11) dX3_give_9 rfl (by decide) (by decide) ?_
    refine Z_iret dX3_give_11 rfl ?_
    exact ⟨rfl, Or.inl ⟨by omega, rfl⟩⟩
set_option maxRecDepth 20000 in
theorem zX3_give1 {G : tl_G} {M : zM} {J : zJ} {h v : Int} (h0 : 0 ≤ h) (h1 : h < 12) (h2 : 2 ≤ v) (h3 : v ≤ 251) (h5 : M 7 v < 2) (h6 : M 8 v < 2) : ZN G yX3_give mX3_give 11 kGive [vR 0, vI h, vI v] F1 M J (qI (fun x M' J' => J' = J ∧ x = 1)) := by
  refine ZN_of (L := [_, _, _]) (by decide) rfl rfl (Nat.le_of_ble_eq_true rfl) rfl (fun hav => ?_)
  refine Z_aload_n (n := 1) dX3_give_0 rfl rfl ?_
  refine Z_callVv (n := 4) [] _ dX3_give_1 rfl cwX3_188 rfl rfl rfl (Nat.le_of_ble_eq_true rfl) (by refine ⟨?_, ?_, ?_, ?_⟩ <;> exact Nat.le_of_ble_eq_true rfl) (fun _ h => h) (zX3_endSteps  (by decide) (by decide)) ?_
  intro M1 J1 f1 q1
  obtain ⟨e1_1, e1_2⟩ := q1
  replace e1_1 := e1_1.symm; subst e1_1
  replace e1_2 := e1_2.symm; subst e1_2
  refine Z_iload_n (n := 5) dX3_give_4 rfl rfl ?_
  refine Z_iconst (n := 6) dX3_give_5 rfl (by decide) ?_
  refine Z_icmp_ne (n := 9) (t := 12) dX3_give_6 rfl (by decide) (fun c6 => ?_) (fun c6 => ?_)
  · refine Z_aload_n (n := 13) dX3_give_12 rfl rfl ?_
    refine Z_getA (n := 16) dX3_give_13 rfl ffX3_29 rfl rfl ?_
    refine Z_iload_n (n := 17) dX3_give_16 rfl rfl ?_
    refine Z_iload_n (n := 18) dX3_give_17 rfl rfl ?_
    refine Z_iast (n := 19) dX3_give_18 rfl rfl rfl (by first | decide | assumption) (by omega) (by omega) (by first | assumption | omega | decide) (by first | assumption | omega | decide) (by decide) ?_
    refine Z_aload_n (n := 20) dX3_give_19 rfl rfl ?_
    refine Z_getO (n := 23) dX3_give_20 rfl ffX3_25 rfl rfl ?_
    refine Z_iload_n (n := 24) dX3_give_23 rfl rfl ?_
    refine Z_callVi (n := 27) [_] _ dX3_give_24 rfl cwX3_152 rfl rfl rfl (Nat.le_of_ble_eq_true rfl) (by refine ⟨?_, ?_, ?_, ?_⟩ <;> exact Nat.le_of_ble_eq_true rfl) (fun a h => by unfold kGive at h; unfold kMarks; omega) (zX2_nodeCount1  (by omega) (by omega) (by rw [uz_oo (by decide), fillz_o (by decide), uz_oo (by decide)]; assumption) (by rw [uz_oo (by decide), fillz_o (by decide), uz_oo (by decide)]; assumption)) ?_
    intro x24 M24 J24 z24 f24 q24
    obtain ⟨e24_1, h24⟩ := q24
    replace e24_1 := e24_1.symm; subst e24_1
    refine Z_iret dX3_give_27 rfl ?_
    exact ⟨rfl, h24⟩
  · omega
set_option maxRecDepth 20000 in
theorem zX3_madeFor {G : tl_G} {M : zM} {J : zJ} {b : Nat} {g i : Int} (hb : NetAt b) (hN : netOK M b) (h0 : 0 ≤ g) (h1 : g < M b 4) (h2 : 0 ≤ i) (h3 : i < 3) : ZN G yX3_madeFor mX3_madeFor 1 kAll [vR 0, vR b, vI g, vI i] F1 M J (qI (fun x M' J' => M' = M ∧ J' = J ∧ -1 ≤ x ∧ x ≤ 251)) := by
  refine ZN_of (L := [_, _, _, _]) (by decide) rfl rfl (Nat.le_of_ble_eq_true rfl) rfl (fun hav => ?_)
  refine Z_rg b 4 (nTg hb) (fun g4 g4b => ?_)
  refine Z_iload_n (n := 1) dX3_madeFor_0 rfl rfl ?_
  refine Z_gets (i := 1) (n := 4) dX3_madeFor_1 rfl (by decide) (by decide) sfX3_245 ?_
  refine Z_aload_n (n := 5) dX3_madeFor_4 rfl rfl ?_
  refine Z_iload_n (n := 6) dX3_madeFor_5 rfl rfl ?_
  refine Z_callVi (n := 9) [_] _ dX3_madeFor_6 rfl cwX3_231 rfl rfl (by first | rfl | exact nS0 hb) (Nat.le_of_ble_eq_true rfl) (by refine ⟨?_, ?_, ?_, ?_⟩ <;> exact Nat.le_of_ble_eq_true rfl) (fun _ h => h) (zX0_kindOf  (by first | assumption | omega | decide) (by first | assumption | omega | decide) (by first | assumption | omega | decide)) ?_
  intro x6 M6 J6 z6 f6 q6
  obtain ⟨e6_1, e6_2, h6⟩ := q6
  replace e6_1 := e6_1.symm; subst e6_1
  replace e6_2 := e6_2.symm; subst e6_2
  refine Z_rg (b + 1) g (nT1 hb) (fun k1 k1b => ?_)
  refine Z_ialdS1 (n := 10) dX3_madeFor_9 rfl (by omega) (by omega) (fun r9 s9 => ?_)
  refine Z_icmp_ge (n := 13) (t := 27) dX3_madeFor_10 rfl (by decide) (fun c10 => ?_) (fun c10 => ?_)
  · refine Z_iconst (n := 28) dX3_madeFor_27 rfl (by decide) ?_
    refine Z_iret dX3_madeFor_28 rfl ?_
    refine ⟨rfl, rfl, ?_⟩; omega
  · refine Z_aload_n (n := 14) dX3_madeFor_13 rfl rfl ?_
    refine Z_getA (n := 17) dX3_madeFor_14 rfl ffX3_33 (by first | rfl | exact nS0 hb) (by first | rfl | exact nS0 hb) ?_
    refine Z_aload_n (n := 18) dX3_madeFor_17 rfl rfl ?_
    refine Z_iload_n (n := 19) dX3_madeFor_18 rfl rfl ?_
    refine Z_iload_n (n := 20) dX3_madeFor_19 rfl rfl ?_
    refine Z_callVi (n := 23) [_, _] _ dX3_madeFor_20 rfl cwX3_234 rfl rfl (by first | rfl | exact nS0 hb) (Nat.le_of_ble_eq_true rfl) (by refine ⟨?_, ?_, ?_, ?_⟩ <;> exact Nat.le_of_ble_eq_true rfl) (fun _ h => h) (zX0_operand  (by first | assumption | omega | decide) (by first | assumption | omega | decide) (by first | assumption | omega | decide) (by first | assumption | omega | decide) (by first | assumption | omega | decide)) ?_
    intro x20 M20 J20 z20 f20 q20
    obtain ⟨e20_1, e20_2, h20⟩ := q20
    replace e20_1 := e20_1.symm; subst e20_1
    replace e20_2 := e20_2.symm; subst e20_2
    have hop := (hN.1 g h0 h1).1 i (by omega) (by rw [← h6]; omega)
    rw [← h20] at hop
    refine Z_iald (n := 24) dX3_madeFor_23 rfl (by first | rfl | exact nS0 hb) rfl (by first | decide | assumption) (by omega) (by omega) (fun r23 s23 => ?_)
    refine Z_goto (t := 28) dX3_madeFor_24 (by decide) ?_
    refine Z_iret dX3_madeFor_28 rfl ?_
    refine ⟨rfl, rfl, ?_⟩; omega
set_option maxRecDepth 20000 in
theorem zX3_letGoBehind {G : tl_G} {M : zM} {J : zJ} {b : Nat} {g : Int} (hb : NetAt b) (hN : netOK M b) (h0 : 0 ≤ g) (h1 : g < M b 4) : ZN G yX3_letGoBehind mX3_letGoBehind 1 k13 [vR 0, vR b, vI g] F1 M J (qV (fun M' J' => J' = J)) := by
  refine ZN_of (L := [_, _, _, _, _, _]) (by decide) rfl rfl (Nat.le_of_ble_eq_true rfl) rfl (fun hav => ?_)
  refine Z_rg b 4 (nTg hb) (fun g4 g4b => ?_)
  refine Z_gets (i := 1) (n := 3) dX3_letGoBehind_0 rfl (by decide) (by decide) sfX3_245 ?_
  refine Z_aload_n (n := 4) dX3_letGoBehind_3 rfl rfl ?_
  refine Z_iload_n (n := 5) dX3_letGoBehind_4 rfl rfl ?_
  refine Z_callVi (n := 8) [_] _ dX3_letGoBehind_5 rfl cwX3_231 rfl rfl (by first | rfl | exact nS0 hb) (Nat.le_of_ble_eq_true rfl) (by refine ⟨?_, ?_, ?_, ?_⟩ <;> exact Nat.le_of_ble_eq_true rfl) (fun _ _ => trivial) (zX0_kindOf  (by first | assumption | omega | decide) (by first | assumption | omega | decide) (by first | assumption | omega | decide)) ?_
  intro x5 M5 J5 z5 f5 q5
  obtain ⟨e5_1, e5_2, h5⟩ := q5
  replace e5_1 := e5_1.symm; subst e5_1
  replace e5_2 := e5_2.symm; subst e5_2
  refine Z_rg (b + 1) g (nT1 hb) (fun k1 k1b => ?_)
  refine Z_ialdS1 (n := 9) dX3_letGoBehind_8 rfl (by omega) (by omega) (fun r8 s8 => ?_)
  refine Z_istore_n (L' := [_, _, _, _, _, _]) (n := 10) dX3_letGoBehind_9 rfl (by decide) rfl rfl ?_
  refine Z_iconst (n := 11) dX3_letGoBehind_10 rfl (by decide) ?_
  refine Z_istore (L' := [_, _, _, _, _, _]) (n := 13) dX3_letGoBehind_11 rfl (by decide) rfl rfl ?_
  have lp13 : ∀ (N13 : Nat) (i : Int) (M13 : zM) (J13 : zJ), ((3 - i).toNat) < N13 → (J13 = J) → (0 ≤ i) → (i ≤ 3) → TZ G mX3_letGoBehind (tl_rm 1 0 0) 0 0 k13 M J 13 [some (vR 0), some (vR b), some (vI g), some (vI (opF x5)), some (vI i), none] [] F1 M13 J13 (ZM G (zPost G k13 F1 M J (qV (fun M' J' => J' = J))) 0 0) := by
    intro N13
    induction N13 with
    | zero => intro i M13 J13 hN; omega
    | succ N13 ih13 =>
      intro i M13 J13 hN13 i13_0 i13_1 i13_2
      refine Z_iload (n := 15) dX3_letGoBehind_13 rfl rfl ?_
      refine Z_iload_n (n := 16) dX3_letGoBehind_15 rfl rfl ?_
      refine Z_icmp_ge (n := 19) (t := 53) dX3_letGoBehind_16 rfl (by decide) (fun c16 => ?_) (fun c16 => ?_)
      · refine Z_vret dX3_letGoBehind_53 rfl ?_
        exact i13_0
      · refine Z_fr (fun fr13 => ?_)
        refine Z_aload_n (n := 20) dX3_letGoBehind_19 rfl rfl ?_
        refine Z_iload_n (n := 21) dX3_letGoBehind_20 rfl rfl ?_
        refine Z_iload (n := 23) dX3_letGoBehind_21 rfl rfl ?_
        refine Z_callVi (n := 26) [_, _] _ dX3_letGoBehind_23 rfl cwX3_234 rfl rfl (by first | rfl | exact nS0 hb) (Nat.le_of_ble_eq_true rfl) (by refine ⟨?_, ?_, ?_, ?_⟩ <;> exact Nat.le_of_ble_eq_true rfl) (fun _ _ => trivial) (zX0_operand  (by first | assumption | omega | decide) (by first | assumption | omega | decide) (by first | assumption | omega | decide) (by first | assumption | omega | decide) (by first | assumption | omega | decide)) ?_
        intro x23 M23 J23 z23 f23 q23
        obtain ⟨e23_1, e23_2, h23⟩ := q23
        replace e23_1 := e23_1.symm; subst e23_1
        replace e23_2 := e23_2.symm; subst e23_2
        rw [congrFun (fr13 (b + 2) (by unfold k13; omega)).1 _] at h23
        have hop := (hN.1 g h0 h1).1 i (by omega) (by rw [← h5]; omega)
        rw [← h23] at hop
        refine Z_istore (L' := [_, _, _, _, _, _]) (n := 28) dX3_letGoBehind_26 rfl (by decide) rfl rfl ?_
        refine Z_aload_n (n := 29) dX3_letGoBehind_28 rfl rfl ?_
        refine Z_getA (n := 32) dX3_letGoBehind_29 rfl ffX3_36 (by first | rfl | exact nS0 hb) (by first | rfl | exact nS0 hb) ?_
        refine Z_iload (n := 34) dX3_letGoBehind_32 rfl rfl ?_
        refine Z_iald (n := 35) dX3_letGoBehind_34 rfl (by first | rfl | exact nS0 hb) rfl (by first | decide | assumption) (by omega) (by omega) (fun r34 s34 => ?_)
        refine Z_iload_n (n := 36) dX3_letGoBehind_35 rfl rfl ?_
        refine Z_icmp_ne (n := 39) (t := 47) dX3_letGoBehind_36 rfl (by decide) (fun c36 => ?_) (fun c36 => ?_)
        · refine Z_iinc (L' := [_, _, _, _, _, _]) (n := 50) dX3_letGoBehind_47 rfl rfl (by decide) rfl rfl (by omega) rfl ?_
          refine Z_goto (t := 13) dX3_letGoBehind_50 (by decide) ?_
          refine Z_loc (L' := [some _, some _, some _, some _, some _, none]) (lsub_same (lsub_same (lsub_same (lsub_same (lsub_same (lsub_none lsub_nil)))))) ?_
          exact ih13 _ _ _ (by omega) (by first | rfl | assumption) (by first | assumption | omega | decide) (by first | assumption | omega | decide)
        · refine Z_aload_n (n := 40) dX3_letGoBehind_39 rfl rfl ?_
          refine Z_getA (n := 43) dX3_letGoBehind_40 rfl ffX3_33 (by first | rfl | exact nS0 hb) (by first | rfl | exact nS0 hb) ?_
          refine Z_iload (n := 45) dX3_letGoBehind_43 rfl rfl ?_
          refine Z_iconst (n := 46) dX3_letGoBehind_45 rfl (by decide) ?_
          refine Z_iast (n := 47) dX3_letGoBehind_46 rfl (by first | rfl | exact nS0 hb) rfl (by first | decide | assumption) (by omega) (by omega) (by first | assumption | omega | decide) (by first | assumption | omega | decide) (by decide) ?_
          refine Z_any (fun M46 => ?_)
          refine Z_iinc (L' := [_, _, _, _, _, _]) (n := 50) dX3_letGoBehind_47 rfl rfl (by decide) rfl rfl (by omega) rfl ?_
          refine Z_goto (t := 13) dX3_letGoBehind_50 (by decide) ?_
          refine Z_loc (L' := [some _, some _, some _, some _, some _, none]) (lsub_same (lsub_same (lsub_same (lsub_same (lsub_same (lsub_none lsub_nil)))))) ?_
          exact ih13 _ _ _ (by omega) (by first | rfl | assumption) (by first | assumption | omega | decide) (by first | assumption | omega | decide)
  refine Z_loc (L' := [some _, some _, some _, some _, some _, none]) (lsub_same (lsub_same (lsub_same (lsub_same (lsub_same (lsub_none lsub_nil)))))) ?_
  exact lp13 _ _ _ _ (Nat.lt_succ_self _) (by first | rfl | assumption) (by first | assumption | omega | decide) (by first | assumption | omega | decide)
set_option maxRecDepth 20000 in
theorem zX3_building {G : tl_G} {M : zM} {J : zJ} {b : Nat} {o : Int} (hb : NetAt b) (hN : netOK M b) (h0 : 0 ≤ o) (h1 : o < M b 5) (hI : pI M) (hO : ordOK M) : ZN G yX3_building mX3_building 13 kStep [vR 0, vR b, vI o] F1 M J (qI (fun x M' J' => J' = J ∧ -1 ≤ x ∧ x ≤ 251 ∧ pI M')) := by
  refine ZN_of (L := [_, _, _, _, _, _, _]) (by decide) rfl rfl (Nat.le_of_ble_eq_true rfl) rfl (fun hav => ?_)
  refine Z_rg b 5 (nTo hb) (fun g5 g5b => ?_)
  refine Z_rg b 4 (nTg hb) (fun g4 g4b => ?_)
  have ho := hN.2 o h0 h1
  refine Z_aload_n (n := 1) dX3_building_0 rfl rfl ?_
  refine Z_iload_n (n := 2) dX3_building_1 rfl rfl ?_
  refine Z_aload_n (n := 3) dX3_building_2 rfl rfl ?_
  refine Z_getA (n := 6) dX3_building_3 rfl ffX3_36 (by first | rfl | exact nS0 hb) (by first | rfl | exact nS0 hb) ?_
  refine Z_callVi (n := 9) [_, _] _ dX3_building_6 rfl cwX3_227 rfl rfl (by first | rfl | exact nS0 hb) (Nat.le_of_ble_eq_true rfl) (by refine ⟨?_, ?_, ?_, ?_⟩ <;> exact Nat.le_of_ble_eq_true rfl) (fun a h => by unfold kStep at h; unfold kLN; omega) (zX0_findNeeds  (by first | assumption | omega | decide) (by first | assumption | omega | decide) (by first | assumption | omega | decide) (by first | assumption | omega | decide)) ?_
  intro x6 M6 J6 z6 f6 q6
  obtain ⟨e6_1, h6⟩ := q6
  replace e6_1 := e6_1.symm; subst e6_1
  have pi6 : pI M6 := pI_fr hI (f6 5 (by decide)).1 (f6 6 (by decide)).1 (f6 10 (by decide)).1 (f6 11 (by decide)).1
  subst h6
  refine Z_istore_n (L' := [_, _, _, _, _, _, _]) (n := 10) dX3_building_9 rfl (by decide) rfl rfl ?_
  refine Z_iconst (n := 11) dX3_building_10 rfl (by decide) ?_
  refine Z_istore (L' := [_, _, _, _, _, _, _]) (n := 13) dX3_building_11 rfl (by decide) rfl rfl ?_
  have lp13 : ∀ (N13 : Nat) (g : Int) (M13 : zM) (J13 : zJ), ((M (b + 3) o + 1 - g).toNat) < N13 → (J13 = J) → (0 ≤ g) → (g ≤ M (b + 3) o + 1) → (pI M13) → TZ G mX3_building (tl_rm 13 0 0) 0 0 kStep M J 13 [some (vR 0), some (vR b), some (vI o), some (vI (M (b + 3) o)), some (vI g), none, none] [] F1 M13 J13 (ZM G (zPost G kStep F1 M J (qI (fun x M' J' => J' = J ∧ -1 ≤ x ∧ x ≤ 251 ∧ pI M'))) 0 0) := by
    intro N13
    induction N13 with
    | zero => intro g M13 J13 hN; omega
    | succ N13 ih13 =>
      intro g M13 J13 hN13 i13_0 i13_1 i13_2 i13_3
      
      refine Z_iload (n := 15) dX3_building_13 rfl rfl ?_
      refine Z_iload_n (n := 16) dX3_building_15 rfl rfl ?_
      refine Z_icmp_gt (n := 19) (t := 122) dX3_building_16 rfl (by decide) (fun c16 => ?_) (fun c16 => ?_)
      · refine Z_fr (fun fr13 => ?_)
        refine Z_aload_n (n := 123) dX3_building_122 rfl rfl ?_
        refine Z_aload_n (n := 124) dX3_building_123 rfl rfl ?_
        refine Z_getA (n := 127) dX3_building_124 rfl ffX3_33 (by first | rfl | exact nS0 hb) (by first | rfl | exact nS0 hb) ?_
        refine Z_iload_n (n := 128) dX3_building_127 rfl rfl ?_
        refine Z_iald (n := 129) dX3_building_128 rfl (by first | rfl | exact nS0 hb) rfl (by first | decide | assumption) (by omega) (by omega) (fun r128 s128 => ?_)
        refine Z_callVi (n := 132) [_] _ dX3_building_129 rfl cwX3_149 rfl rfl (by first | rfl | exact nS0 hb) (Nat.le_of_ble_eq_true rfl) (by refine ⟨?_, ?_, ?_, ?_⟩ <;> exact Nat.le_of_ble_eq_true rfl) (fun a h => by unfold kStep at h; unfold kKeep; omega) (zX3_keep  (by first | assumption | omega | decide) (by first | assumption | omega | decide)) ?_
        intro x129 M129 J129 z129 f129 q129
        obtain ⟨e129_1, h129⟩ := q129
        replace e129_1 := e129_1.symm; subst e129_1
        refine Z_istore (L' := [_, _, _, _, _, _, _]) (n := 134) dX3_building_132 rfl (by decide) rfl rfl ?_
        refine Z_aload_n (n := 135) dX3_building_134 rfl rfl ?_
        refine Z_getA (n := 138) dX3_building_135 rfl ffX3_33 (by first | rfl | exact nS0 hb) (by first | rfl | exact nS0 hb) ?_
        refine Z_iload_n (n := 139) dX3_building_138 rfl rfl ?_
        refine Z_iconst (n := 140) dX3_building_139 rfl (by decide) ?_
        refine Z_iast (n := 141) dX3_building_140 rfl (by first | rfl | exact nS0 hb) rfl (by first | decide | assumption) (by omega) (by omega) (by first | assumption | omega | decide) (by first | assumption | omega | decide) (by decide) ?_
        refine Z_iload (n := 143) dX3_building_141 rfl rfl ?_
        refine Z_iret dX3_building_143 rfl ?_
        refine ⟨by assumption, by omega, by omega, ?_⟩
        exact pI_fr (pI_fr i13_3 (f129 5 (by decide)).1 (f129 6 (by decide)).1 (f129 10 (by decide)).1 (f129 11 (by decide)).1) (uz_o (by decide)) (uz_o (by decide)) (uz_o (by decide)) (uz_o (by decide))
      · refine Z_fr (fun fr13 => ?_)
        have hN13 : netOK M13 b := netOK_fr hN (fr13 b (by unfold kStep; omega)).1 (fr13 (b + 1) (by unfold kStep; omega)).1 (fr13 (b + 2) (by unfold kStep; omega)).1 (fr13 (b + 3) (by unfold kStep; omega)).1
        have hb4 : M13 b 4 = M b 4 := congrFun (fr13 b (by unfold kStep; omega)).1 4
        have hO13 : ordOK M13 := ordOK_fr hO (fr13 4 (by decide)).1
        refine Z_aload_n (n := 20) dX3_building_19 rfl rfl ?_
        refine Z_getA (n := 23) dX3_building_20 rfl ffX3_36 (by first | rfl | exact nS0 hb) (by first | rfl | exact nS0 hb) ?_
        refine Z_iload (n := 25) dX3_building_23 rfl rfl ?_
        refine Z_iald (n := 26) dX3_building_25 rfl (by first | rfl | exact nS0 hb) rfl (by first | decide | assumption) (by omega) (by omega) (fun r25 s25 => ?_)
        refine Z_iconst (n := 27) dX3_building_26 rfl (by decide) ?_
        refine Z_icmp_ne (n := 30) (t := 33) dX3_building_27 rfl (by decide) (fun c27 => ?_) (fun c27 => ?_)
        · refine Z_aload_n (n := 34) dX3_building_33 rfl rfl ?_
          refine Z_iload (n := 36) dX3_building_34 rfl rfl ?_
          refine Z_callVi (n := 39) [_] _ dX3_building_36 rfl cwX3_231 rfl rfl (by first | rfl | exact nS0 hb) (Nat.le_of_ble_eq_true rfl) (by refine ⟨?_, ?_, ?_, ?_⟩ <;> exact Nat.le_of_ble_eq_true rfl) (fun _ _ => trivial) (zX0_kindOf  (by first | assumption | omega | decide) (by omega) (by omega)) ?_
          intro x36 M36 J36 z36 f36 q36
          obtain ⟨e36_1, e36_2, h36⟩ := q36
          replace e36_1 := e36_1.symm; subst e36_1
          replace e36_2 := e36_2.symm; subst e36_2
          refine Z_istore (L' := [_, _, _, _, _, _, _]) (n := 41) dX3_building_39 rfl (by decide) rfl rfl ?_
          refine Z_rg (b + 1) g (nT1 hb) (fun k1 k1b => ?_)
          refine Z_iload (n := 43) dX3_building_41 rfl rfl ?_
          refine Z_if_ne (n := 46) (t := 60) dX3_building_43 rfl (by decide) (fun c43 => ?_) (fun c43 => ?_)
          · refine Z_aload_n (n := 61) dX3_building_60 rfl rfl ?_
            refine Z_iload (n := 63) dX3_building_61 rfl rfl ?_
            refine Z_aload_n (n := 64) dX3_building_63 rfl rfl ?_
            refine Z_aload_n (n := 65) dX3_building_64 rfl rfl ?_
            refine Z_iload (n := 67) dX3_building_65 rfl rfl ?_
            refine Z_iconst (n := 68) dX3_building_67 rfl (by decide) ?_
            refine Z_callVi (n := 71) [_, _, _] _ dX3_building_68 rfl cwX3_237 rfl rfl (by first | rfl | exact nS0 hb) (Nat.le_of_ble_eq_true rfl) (by refine ⟨?_, ?_, ?_, ?_⟩ <;> exact Nat.le_of_ble_eq_true rfl) (fun _ _ => trivial) (zX3_madeFor  (by first | assumption | omega | decide) (by assumption) (by omega) (by omega) (by omega) (by omega)) ?_
            intro x68 M68 J68 z68 f68 q68
            obtain ⟨e68_1, e68_2, h68⟩ := q68
            replace e68_1 := e68_1.symm; subst e68_1
            replace e68_2 := e68_2.symm; subst e68_2
            refine Z_aload_n (n := 72) dX3_building_71 rfl rfl ?_
            refine Z_aload_n (n := 73) dX3_building_72 rfl rfl ?_
            refine Z_iload (n := 75) dX3_building_73 rfl rfl ?_
            refine Z_iconst (n := 76) dX3_building_75 rfl (by decide) ?_
            refine Z_callVi (n := 79) [_, _, _] _ dX3_building_76 rfl cwX3_237 rfl rfl (by first | rfl | exact nS0 hb) (Nat.le_of_ble_eq_true rfl) (by refine ⟨?_, ?_, ?_, ?_⟩ <;> exact Nat.le_of_ble_eq_true rfl) (fun _ _ => trivial) (zX3_madeFor  (by first | assumption | omega | decide) (by assumption) (by omega) (by omega) (by omega) (by omega)) ?_
            intro x76 M76 J76 z76 f76 q76
            obtain ⟨e76_1, e76_2, h76⟩ := q76
            replace e76_1 := e76_1.symm; subst e76_1
            replace e76_2 := e76_2.symm; subst e76_2
            refine Z_aload_n (n := 80) dX3_building_79 rfl rfl ?_
            refine Z_aload_n (n := 81) dX3_building_80 rfl rfl ?_
            refine Z_iload (n := 83) dX3_building_81 rfl rfl ?_
            refine Z_iconst (n := 84) dX3_building_83 rfl (by decide) ?_
            refine Z_callVi (n := 87) [_, _, _] _ dX3_building_84 rfl cwX3_237 rfl rfl (by first | rfl | exact nS0 hb) (Nat.le_of_ble_eq_true rfl) (by refine ⟨?_, ?_, ?_, ?_⟩ <;> exact Nat.le_of_ble_eq_true rfl) (fun _ _ => trivial) (zX3_madeFor  (by first | assumption | omega | decide) (by assumption) (by omega) (by omega) (by omega) (by omega)) ?_
            intro x84 M84 J84 z84 f84 q84
            obtain ⟨e84_1, e84_2, h84⟩ := q84
            replace e84_1 := e84_1.symm; subst e84_1
            replace e84_2 := e84_2.symm; subst e84_2
            refine Z_callVi (n := 90) [_, _, _, _] _ dX3_building_87 rfl cwX3_142 rfl rfl (by first | rfl | exact nS0 hb) (Nat.le_of_ble_eq_true rfl) (by refine ⟨?_, ?_, ?_, ?_⟩ <;> exact Nat.le_of_ble_eq_true rfl) (fun _ h => h) (zX3_kindStep  (by omega) (by omega) (by omega) (by omega) (by omega) (by omega) (by omega) (by omega) (by assumption)) ?_
            intro x87 M87 J87 z87 f87 q87
            obtain ⟨e87_1, l87, u87, pi87, -⟩ := q87
            replace e87_1 := e87_1.symm; subst e87_1
            refine Z_istore (L' := [_, _, _, _, _, _, _]) (n := 92) dX3_building_90 rfl (by decide) rfl rfl ?_
            refine Z_iload (n := 94) dX3_building_92 rfl rfl ?_
            refine Z_iconst (n := 95) dX3_building_94 rfl (by decide) ?_
            refine Z_icmp_ne (n := 98) (t := 100) dX3_building_95 rfl (by decide) (fun c95 => ?_) (fun c95 => ?_)
            · refine Z_aload_n (n := 101) dX3_building_100 rfl rfl ?_
              refine Z_getA (n := 104) dX3_building_101 rfl ffX3_33 (by first | rfl | exact nS0 hb) (by first | rfl | exact nS0 hb) ?_
              refine Z_iload (n := 106) dX3_building_104 rfl rfl ?_
              refine Z_iload (n := 108) dX3_building_106 rfl rfl ?_
              refine Z_iast (n := 109) dX3_building_108 rfl (by first | rfl | exact nS0 hb) rfl (by first | decide | assumption) (by omega) (by omega) (by first | assumption | omega | decide) (by first | assumption | omega | decide) (by decide) ?_
              refine Z_nm (fun M108 e108 => ?_)
              have pi108 : pI M108 := by rw [e108]; exact pI_fr (by assumption) (uz_o (by decide)) (uz_o (by decide)) (uz_o (by decide)) (uz_o (by decide))
              clear e108
              refine Z_fr (fun fr108 => ?_)
              have hN108 : netOK M108 b := netOK_fr hN (fr108 b (by unfold kStep; omega)).1 (fr108 (b + 1) (by unfold kStep; omega)).1 (fr108 (b + 2) (by unfold kStep; omega)).1 (fr108 (b + 3) (by unfold kStep; omega)).1
              have hb4b : M108 b 4 = M b 4 := congrFun (fr108 b (by unfold kStep; omega)).1 4
              refine Z_aload_n (n := 110) dX3_building_109 rfl rfl ?_
              refine Z_aload_n (n := 111) dX3_building_110 rfl rfl ?_
              refine Z_iload (n := 113) dX3_building_111 rfl rfl ?_
              refine Z_callVv (n := 116) [_, _] _ dX3_building_113 rfl cwX3_241 rfl rfl (by first | rfl | exact nS0 hb) (Nat.le_of_ble_eq_true rfl) (by refine ⟨?_, ?_, ?_, ?_⟩ <;> exact Nat.le_of_ble_eq_true rfl) (fun a h => by unfold kStep at h; unfold k13; omega) (zX3_letGoBehind  (by first | assumption | omega | decide) (by assumption) (by omega) (by omega)) ?_
              intro M113 J113 f113 q113
              have e113_1 := q113
              replace e113_1 := e113_1.symm; subst e113_1
              refine Z_iinc (L' := [_, _, _, _, _, _, _]) (n := 119) dX3_building_116 rfl rfl (by decide) rfl rfl (by omega) rfl ?_
              refine Z_goto (t := 13) dX3_building_119 (by decide) ?_
              refine Z_loc (L' := [some _, some _, some _, some _, some _, none, none]) (lsub_same (lsub_same (lsub_same (lsub_same (lsub_same (lsub_none (lsub_none lsub_nil))))))) ?_
              exact ih13 _ _ _ (by omega) (by first | rfl | assumption) (by first | assumption | omega | decide) (by first | assumption | omega | decide) (by first | assumption | exact pi6 | exact pI_fr pi108 (f113 5 (by decide)).1 (f113 6 (by decide)).1 (f113 10 (by decide)).1 (f113 11 (by decide)).1)
            · refine Z_iconst (n := 99) dX3_building_98 rfl (by decide) ?_
              refine Z_iret dX3_building_99 rfl ?_
              refine ⟨i13_0, by omega, by omega, by assumption⟩
          · refine Z_aload_n (n := 47) dX3_building_46 rfl rfl ?_
            refine Z_aload_n (n := 48) dX3_building_47 rfl rfl ?_
            refine Z_iload (n := 50) dX3_building_48 rfl rfl ?_
            refine Z_iconst (n := 51) dX3_building_50 rfl (by decide) ?_
            have hov := (hN13.1 g (by omega) (by omega)).2 (by omega)
            refine Z_callVi (n := 54) [_, _] _ dX3_building_51 rfl cwX3_234 rfl rfl (by first | rfl | exact nS0 hb) (Nat.le_of_ble_eq_true rfl) (by refine ⟨?_, ?_, ?_, ?_⟩ <;> exact Nat.le_of_ble_eq_true rfl) (fun _ _ => trivial) (zX0_operand  (by first | assumption | omega | decide) (by omega) (by omega) (by omega) (by omega)) ?_
            intro x51 M51 J51 z51 f51 q51
            obtain ⟨e51_1, e51_2, h51⟩ := q51
            replace e51_1 := e51_1.symm; subst e51_1
            replace e51_2 := e51_2.symm; subst e51_2
            rw [show 3 * g + 0 = 3 * g by omega] at h51
            rw [← h51] at hov
            refine Z_callVi (n := 57) [_] _ dX3_building_54 rfl cwX3_136 rfl rfl (by first | rfl | exact nS0 hb) (Nat.le_of_ble_eq_true rfl) (by refine ⟨?_, ?_, ?_, ?_⟩ <;> exact Nat.le_of_ble_eq_true rfl) (fun _ h => h) (zX3_variableStep  (by first | assumption | omega | decide) (by first | assumption | omega | decide) (by first | assumption | omega | decide) (by first | assumption | omega | decide)) ?_
            intro x54 M54 J54 z54 f54 q54
            obtain ⟨e54_1, l54, u54, pi54, -⟩ := q54
            replace e54_1 := e54_1.symm; subst e54_1
            refine Z_goto (t := 90) dX3_building_57 (by decide) ?_
            refine Z_istore (L' := [_, _, _, _, _, _, _]) (n := 92) dX3_building_90 rfl (by decide) rfl rfl ?_
            refine Z_iload (n := 94) dX3_building_92 rfl rfl ?_
            refine Z_iconst (n := 95) dX3_building_94 rfl (by decide) ?_
            refine Z_icmp_ne (n := 98) (t := 100) dX3_building_95 rfl (by decide) (fun c95 => ?_) (fun c95 => ?_)
            · refine Z_aload_n (n := 101) dX3_building_100 rfl rfl ?_
              refine Z_getA (n := 104) dX3_building_101 rfl ffX3_33 (by first | rfl | exact nS0 hb) (by first | rfl | exact nS0 hb) ?_
              refine Z_iload (n := 106) dX3_building_104 rfl rfl ?_
              refine Z_iload (n := 108) dX3_building_106 rfl rfl ?_
              refine Z_iast (n := 109) dX3_building_108 rfl (by first | rfl | exact nS0 hb) rfl (by first | decide | assumption) (by omega) (by omega) (by first | assumption | omega | decide) (by first | assumption | omega | decide) (by decide) ?_
              refine Z_nm (fun M108 e108 => ?_)
              have pi108 : pI M108 := by rw [e108]; exact pI_fr (by assumption) (uz_o (by decide)) (uz_o (by decide)) (uz_o (by decide)) (uz_o (by decide))
              clear e108
              refine Z_fr (fun fr108 => ?_)
              have hN108 : netOK M108 b := netOK_fr hN (fr108 b (by unfold kStep; omega)).1 (fr108 (b + 1) (by unfold kStep; omega)).1 (fr108 (b + 2) (by unfold kStep; omega)).1 (fr108 (b + 3) (by unfold kStep; omega)).1
              have hb4b : M108 b 4 = M b 4 := congrFun (fr108 b (by unfold kStep; omega)).1 4
              refine Z_aload_n (n := 110) dX3_building_109 rfl rfl ?_
              refine Z_aload_n (n := 111) dX3_building_110 rfl rfl ?_
              refine Z_iload (n := 113) dX3_building_111 rfl rfl ?_
              refine Z_callVv (n := 116) [_, _] _ dX3_building_113 rfl cwX3_241 rfl rfl (by first | rfl | exact nS0 hb) (Nat.le_of_ble_eq_true rfl) (by refine ⟨?_, ?_, ?_, ?_⟩ <;> exact Nat.le_of_ble_eq_true rfl) (fun a h => by unfold kStep at h; unfold k13; omega) (zX3_letGoBehind  (by first | assumption | omega | decide) (by assumption) (by omega) (by omega)) ?_
              intro M113 J113 f113 q113
              have e113_1 := q113
              replace e113_1 := e113_1.symm; subst e113_1
              refine Z_iinc (L' := [_, _, _, _, _, _, _]) (n := 119) dX3_building_116 rfl rfl (by decide) rfl rfl (by omega) rfl ?_
              refine Z_goto (t := 13) dX3_building_119 (by decide) ?_
              refine Z_loc (L' := [some _, some _, some _, some _, some _, none, none]) (lsub_same (lsub_same (lsub_same (lsub_same (lsub_same (lsub_none (lsub_none lsub_nil))))))) ?_
              exact ih13 _ _ _ (by omega) (by first | rfl | assumption) (by first | assumption | omega | decide) (by first | assumption | omega | decide) (by first | assumption | exact pi6 | exact pI_fr pi108 (f113 5 (by decide)).1 (f113 6 (by decide)).1 (f113 10 (by decide)).1 (f113 11 (by decide)).1)
            · refine Z_iconst (n := 99) dX3_building_98 rfl (by decide) ?_
              refine Z_iret dX3_building_99 rfl ?_
              refine ⟨i13_0, by omega, by omega, by assumption⟩
        · refine Z_goto (t := 116) dX3_building_30 (by decide) ?_
          refine Z_iinc (L' := [_, _, _, _, _, _, _]) (n := 119) dX3_building_116 rfl rfl (by decide) rfl rfl (by omega) rfl ?_
          refine Z_goto (t := 13) dX3_building_119 (by decide) ?_
          refine Z_loc (L' := [some _, some _, some _, some _, some _, none, none]) (lsub_same (lsub_same (lsub_same (lsub_same (lsub_same (lsub_none (lsub_none lsub_nil))))))) ?_
          exact ih13 _ _ _ (by omega) (by first | rfl | assumption) (by first | assumption | omega | decide) (by first | assumption | omega | decide) (by first | assumption | exact pi6 | exact pI_fr pi108 (f113 5 (by decide)).1 (f113 6 (by decide)).1 (f113 10 (by decide)).1 (f113 11 (by decide)).1)
  refine Z_loc (L' := [some _, some _, some _, some _, some _, none, none]) (lsub_same (lsub_same (lsub_same (lsub_same (lsub_same (lsub_none (lsub_none lsub_nil))))))) ?_
  exact lp13 _ _ _ _ (Nat.lt_succ_self _) (by first | rfl | assumption) (by first | assumption | omega | decide) (by first | assumption | omega | decide) (by first | assumption | exact pi6 | exact pI_fr pi108 (f113 5 (by decide)).1 (f113 6 (by decide)).1 (f113 10 (by decide)).1 (f113 11 (by decide)).1)
