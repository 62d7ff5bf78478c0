/-! ===== Pool: making and reading ===== -/
def knF (t o s k : Int) : Int := if 2 ≤ o then t else zor (zand (if o = 1 then zshr t s else t) k) (zshl (zand (if o = 1 then zshr t s else t) k) s)
def mkz (M : zM) (n p l h : Int) : zM := uz (uz (uz (uz M 5 6 (M 10 n)) 6 n p) 7 n l) 8 n h
theorem mkz_57 {M : zM} {n p l h : Int} : mkz M n p l h 5 7 = M 5 7 := by
  unfold mkz
  rw [uz_oo (by decide), uz_oo (by decide), uz_oo (by decide), uz_n (by decide)]
theorem mkz_7 {M : zM} {n p l h : Int} : mkz M n p l h 7 n = l := by
  unfold mkz
  rw [uz_oo (by decide), uz_s]
theorem mkz_8 {M : zM} {n p l h : Int} : mkz M n p l h 8 n = h := uz_s
set_option maxRecDepth 20000 in
theorem zX2_knowing {G : tl_G} {M : zM} {J : zJ} {t o s k : Int}  : ZN G yX2_knowing mX2_knowing 0 kAll [vI t, vI o, vI s, vI k] F1 M J (qI (fun x M' J' => M' = M ∧ J' = J ∧ x = knF t o s k)) := by
  refine ZN_of (L := [_, _, _, _, _]) (by decide) rfl rfl (Nat.le_of_ble_eq_true rfl) rfl (fun hav => ?_)
  refine Z_iload_n (n := 1) dX2_knowing_0 rfl rfl ?_
  refine Z_iconst (n := 2) dX2_knowing_1 rfl (by decide) ?_
  refine Z_icmp_lt (n := 5) (t := 7) dX2_knowing_2 rfl (by decide) (fun c2 => ?_) (fun c2 => ?_)
  · refine Z_iload_n (n := 8) dX2_knowing_7 rfl rfl ?_
    refine Z_iconst (n := 9) dX2_knowing_8 rfl (by decide) ?_
    refine Z_icmp_ne (n := 12) (t := 18) dX2_knowing_9 rfl (by decide) (fun c9 => ?_) (fun c9 => ?_)
    · refine Z_iload_n (n := 19) dX2_knowing_18 rfl rfl ?_
      refine Z_iload_n (n := 20) dX2_knowing_19 rfl rfl ?_
      refine Z_iand (n := 21) dX2_knowing_20 rfl ?_
      refine Z_istore (L' := [_, _, _, _, _]) (n := 23) dX2_knowing_21 rfl (by decide) rfl rfl ?_
      refine Z_iload (n := 25) dX2_knowing_23 rfl rfl ?_
      refine Z_iload (n := 27) dX2_knowing_25 rfl rfl ?_
      refine Z_iload_n (n := 28) dX2_knowing_27 rfl rfl ?_
      refine Z_ishl (n := 29) dX2_knowing_28 rfl ?_
      refine Z_ior (n := 30) dX2_knowing_29 rfl ?_
      refine Z_iret dX2_knowing_30 rfl ?_
      refine ⟨rfl, rfl, ?_⟩; unfold knF; rw [if_neg (by omega)]
      first | rw [if_pos (by omega)] | rw [if_neg (by omega)]
    · refine Z_iload_n (n := 13) dX2_knowing_12 rfl rfl ?_
      refine Z_iload_n (n := 14) dX2_knowing_13 rfl rfl ?_
      refine Z_ishr (n := 15) dX2_knowing_14 rfl ?_
      refine Z_goto (t := 19) dX2_knowing_15 (by decide) ?_
      refine Z_iload_n (n := 20) dX2_knowing_19 rfl rfl ?_
      refine Z_iand (n := 21) dX2_knowing_20 rfl ?_
      refine Z_istore (L' := [_, _, _, _, _]) (n := 23) dX2_knowing_21 rfl (by decide) rfl rfl ?_
      refine Z_iload (n := 25) dX2_knowing_23 rfl rfl ?_
      refine Z_iload (n := 27) dX2_knowing_25 rfl rfl ?_
      refine Z_iload_n (n := 28) dX2_knowing_27 rfl rfl ?_
      refine Z_ishl (n := 29) dX2_knowing_28 rfl ?_
      refine Z_ior (n := 30) dX2_knowing_29 rfl ?_
      refine Z_iret dX2_knowing_30 rfl ?_
      refine ⟨rfl, rfl, ?_⟩; unfold knF; rw [if_neg (by omega)]
      first | rw [if_pos (by omega)] | rw [if_neg (by omega)]
  · refine Z_iload_n (n := 6) dX2_knowing_5 rfl rfl ?_
    refine Z_iret dX2_knowing_6 rfl ?_
    refine ⟨rfl, rfl, ?_⟩; unfold knF; rw [if_pos (by omega)]
set_option maxRecDepth 20000 in
theorem zX2_lowAt {G : tl_G} {M : zM} {J : zJ} {n p : Int} (h0 : 0 ≤ n) (h1 : n ≤ 251) : ZN G yX2_lowAt mX2_lowAt 0 kAll [vR 5, vI n, vI p] F1 M J (qI (fun x M' J' => M' = M ∧ J' = J ∧ 0 ≤ x ∧ x ≤ 251 ∧ ((M 6 n = p ∧ x = M 7 n) ∨ (¬ M 6 n = p ∧ x = n)))) := by
  refine ZN_of (L := [_, _, _]) (by decide) rfl rfl (Nat.le_of_ble_eq_true rfl) rfl (fun hav => ?_)
  refine Z_aload_n (n := 1) dX2_lowAt_0 rfl rfl ?_
  refine Z_getA (n := 4) dX2_lowAt_1 rfl ffX2_11 rfl rfl ?_
  refine Z_iload_n (n := 5) dX2_lowAt_4 rfl rfl ?_
  refine Z_iald (n := 6) dX2_lowAt_5 rfl rfl rfl (by first | decide | assumption) (by omega) (by omega) (fun r5 s5 => ?_)
  refine Z_iload_n (n := 7) dX2_lowAt_6 rfl rfl ?_
  refine Z_icmp_ne (n := 10) (t := 19) dX2_lowAt_7 rfl (by decide) (fun c7 => ?_) (fun c7 => ?_)
  · refine Z_iload_n (n := 20) dX2_lowAt_19 rfl rfl ?_
    refine Z_iret dX2_lowAt_20 rfl ?_
    refine ⟨rfl, rfl, ?_⟩; omega
  · refine Z_aload_n (n := 11) dX2_lowAt_10 rfl rfl ?_
    refine Z_getA (n := 14) dX2_lowAt_11 rfl ffX2_15 rfl rfl ?_
    refine Z_iload_n (n := 15) dX2_lowAt_14 rfl rfl ?_
    refine Z_iald (n := 16) dX2_lowAt_15 rfl rfl rfl (by first | decide | assumption) (by omega) (by omega) (fun r15 s15 => ?_)
    refine Z_goto (t := 20) dX2_lowAt_16 (by decide) ?_
    refine Z_iret dX2_lowAt_20 rfl ?_
    refine ⟨rfl, rfl, ?_⟩; omega
set_option maxRecDepth 20000 in
theorem zX2_highAt {G : tl_G} {M : zM} {J : zJ} {n p : Int} (h0 : 0 ≤ n) (h1 : n ≤ 251) : ZN G yX2_highAt mX2_highAt 0 kAll [vR 5, vI n, vI p] F1 M J (qI (fun x M' J' => M' = M ∧ J' = J ∧ 0 ≤ x ∧ x ≤ 251 ∧ ((M 6 n = p ∧ x = M 8 n) ∨ (¬ M 6 n = p ∧ x = n)))) := by
  refine ZN_of (L := [_, _, _]) (by decide) rfl rfl (Nat.le_of_ble_eq_true rfl) rfl (fun hav => ?_)
  refine Z_aload_n (n := 1) dX2_highAt_0 rfl rfl ?_
  refine Z_getA (n := 4) dX2_highAt_1 rfl ffX2_11 rfl rfl ?_
  refine Z_iload_n (n := 5) dX2_highAt_4 rfl rfl ?_
  refine Z_iald (n := 6) dX2_highAt_5 rfl rfl rfl (by first | decide | assumption) (by omega) (by omega) (fun r5 s5 => ?_)
  refine Z_iload_n (n := 7) dX2_highAt_6 rfl rfl ?_
  refine Z_icmp_ne (n := 10) (t := 19) dX2_highAt_7 rfl (by decide) (fun c7 => ?_) (fun c7 => ?_)
  · refine Z_iload_n (n := 20) dX2_highAt_19 rfl rfl ?_
    refine Z_iret dX2_highAt_20 rfl ?_
    refine ⟨rfl, rfl, ?_⟩; omega
  · refine Z_aload_n (n := 11) dX2_highAt_10 rfl rfl ?_
    refine Z_getA (n := 14) dX2_highAt_11 rfl ffX2_18 rfl rfl ?_
    refine Z_iload_n (n := 15) dX2_highAt_14 rfl rfl ?_
    refine Z_iald (n := 16) dX2_highAt_15 rfl rfl rfl (by first | decide | assumption) (by omega) (by omega) (fun r15 s15 => ?_)
    refine Z_goto (t := 20) dX2_highAt_16 (by decide) ?_
    refine Z_iret dX2_highAt_20 rfl ?_
    refine ⟨rfl, rfl, ?_⟩; omega
set_option maxRecDepth 20000 in
theorem zX2_valueFor {G : tl_G} {M : zM} {J : zJ} {n a : Int} (h0 : 0 ≤ n) (h1 : n ≤ 251) : ZN G yX2_valueFor mX2_valueFor 1 kAll [vR 5, vI n, vI a, vR 2] F1 M J (qI (fun x M' J' => M' = M ∧ J' = J ∧ 0 ≤ x ∧ x ≤ 1)) := by
  refine ZN_of (L := [_, _, _, _, _, _, _]) (by decide) rfl rfl (Nat.le_of_ble_eq_true rfl) rfl (fun hav => ?_)
  refine Z_iload_n (n := 1) dX2_valueFor_0 rfl rfl ?_
  refine Z_istore (L' := [_, _, _, _, _, _, _]) (n := 3) dX2_valueFor_1 rfl (by decide) rfl rfl ?_
  refine Z_iconst (n := 4) dX2_valueFor_3 rfl (by decide) ?_
  refine Z_istore (L' := [_, _, _, _, _, _, _]) (n := 6) dX2_valueFor_4 rfl (by decide) rfl rfl ?_
  have lp6 : ∀ (N6 : Nat) (c i : Int) , ((8 - i).toNat) < N6 → (0 ≤ c) → (c ≤ 251) → (0 ≤ i) → (i ≤ 8) → TZ G mX2_valueFor (tl_rm 1 0 0) 0 0 kAll M J 6 [some (vR 5), some (vI n), some (vI a), some (vR 2), some (vI c), some (vI i), none] [] F1 M J (ZM G (zPost G kAll F1 M J (qI (fun x M' J' => M' = M ∧ J' = J ∧ 0 ≤ x ∧ x ≤ 1))) 0 0) := by
    intro N6
    induction N6 with
    | zero => intro c i  hN; omega
    | succ N6 ih6 =>
      intro c i  hN6 i6_0 i6_1 i6_2 i6_3
      refine Z_iload (n := 8) dX2_valueFor_6 rfl rfl ?_
      refine Z_bipush (n := 10) dX2_valueFor_8 rfl (by decide) (by decide) ?_
      refine Z_icmp_ge (n := 13) (t := 75) dX2_valueFor_10 rfl (by decide) (fun c10 => ?_) (fun c10 => ?_)
      · refine Z_iload (n := 77) dX2_valueFor_75 rfl rfl ?_
        refine Z_iconst (n := 78) dX2_valueFor_77 rfl (by decide) ?_
        refine Z_icmp_ne (n := 81) (t := 85) dX2_valueFor_78 rfl (by decide) (fun c78 => ?_) (fun c78 => ?_)
        · refine Z_iconst (n := 86) dX2_valueFor_85 rfl (by decide) ?_
          refine Z_iret dX2_valueFor_86 rfl ?_
          refine ⟨rfl, rfl, ?_⟩; omega
        · refine Z_iconst (n := 82) dX2_valueFor_81 rfl (by decide) ?_
          refine Z_goto (t := 86) dX2_valueFor_82 (by decide) ?_
          refine Z_iret dX2_valueFor_86 rfl ?_
          refine ⟨rfl, rfl, ?_⟩; omega
      · refine Z_iload (n := 15) dX2_valueFor_13 rfl rfl ?_
        refine Z_iconst (n := 16) dX2_valueFor_15 rfl (by decide) ?_
        refine Z_icmp_lt (n := 19) (t := 75) dX2_valueFor_16 rfl (by decide) (fun c16 => ?_) (fun c16 => ?_)
        · refine Z_iload (n := 77) dX2_valueFor_75 rfl rfl ?_
          refine Z_iconst (n := 78) dX2_valueFor_77 rfl (by decide) ?_
          refine Z_icmp_ne (n := 81) (t := 85) dX2_valueFor_78 rfl (by decide) (fun c78 => ?_) (fun c78 => ?_)
          · refine Z_iconst (n := 86) dX2_valueFor_85 rfl (by decide) ?_
            refine Z_iret dX2_valueFor_86 rfl ?_
            refine ⟨rfl, rfl, ?_⟩; omega
          · refine Z_iconst (n := 82) dX2_valueFor_81 rfl (by decide) ?_
            refine Z_goto (t := 86) dX2_valueFor_82 (by decide) ?_
            refine Z_iret dX2_valueFor_86 rfl ?_
            refine ⟨rfl, rfl, ?_⟩; omega
        · refine Z_iload_n (n := 20) dX2_valueFor_19 rfl rfl ?_
          refine Z_aload_n (n := 21) dX2_valueFor_20 rfl rfl ?_
          refine Z_aload_n (n := 22) dX2_valueFor_21 rfl rfl ?_
          refine Z_getA (n := 25) dX2_valueFor_22 rfl ffX2_11 rfl rfl ?_
          refine Z_iload (n := 27) dX2_valueFor_25 rfl rfl ?_
          refine Z_iald (n := 28) dX2_valueFor_27 rfl rfl rfl (by first | decide | assumption) (by omega) (by omega) (fun r27 s27 => ?_)
          rw [if_neg (by omega)] at s27
          refine Z_callVi (n := 31) [_] _ dX2_valueFor_28 rfl cwX2_95 rfl rfl rfl (Nat.le_of_ble_eq_true rfl) (by refine ⟨?_, ?_, ?_, ?_⟩ <;> exact Nat.le_of_ble_eq_true rfl) (fun _ h => h) (zX1_variableAt  (by first | assumption | omega | decide) (by first | assumption | omega | decide)) ?_
          intro x28 M28 J28 z28 f28 q28
          obtain ⟨e28_1, e28_2, h28⟩ := q28
          replace e28_1 := e28_1.symm; subst e28_1
          replace e28_2 := e28_2.symm; subst e28_2
          refine Z_ishr (n := 32) dX2_valueFor_31 rfl ?_
          refine Z_iconst (n := 33) dX2_valueFor_32 rfl (by decide) ?_
          refine Z_iand (n := 34) dX2_valueFor_33 rfl ?_
          refine Z_iconst (n := 35) dX2_valueFor_34 rfl (by decide) ?_
          refine Z_icmp_ne (n := 38) (t := 42) dX2_valueFor_35 rfl (by decide) (fun c35 => ?_) (fun c35 => ?_)
          · refine Z_iconst (n := 43) dX2_valueFor_42 rfl (by decide) ?_
            refine Z_istore (L' := [_, _, _, _, _, _, _]) (n := 45) dX2_valueFor_43 rfl (by decide) rfl rfl ?_
            refine Z_iload (n := 47) dX2_valueFor_45 rfl rfl ?_
            refine Z_if_eq (n := 50) (t := 60) dX2_valueFor_47 rfl (by decide) (fun c47 => ?_) (fun c47 => ?_)
            · refine Z_aload_n (n := 61) dX2_valueFor_60 rfl rfl ?_
              refine Z_getA (n := 64) dX2_valueFor_61 rfl ffX2_15 rfl rfl ?_
              refine Z_iload (n := 66) dX2_valueFor_64 rfl rfl ?_
              refine Z_iald (n := 67) dX2_valueFor_66 rfl rfl rfl (by first | decide | assumption) (by omega) (by omega) (fun r66 s66 => ?_)
              refine Z_istore (L' := [_, _, _, _, _, _, _]) (n := 69) dX2_valueFor_67 rfl (by decide) rfl rfl ?_
              refine Z_iinc (L' := [_, _, _, _, _, _, _]) (n := 72) dX2_valueFor_69 rfl rfl (by decide) rfl rfl (by omega) rfl ?_
              refine Z_goto (t := 6) dX2_valueFor_72 (by decide) ?_
              refine Z_loc (L' := [some _, some _, some _, some _, some _, some _, none]) (lsub_same (lsub_same (lsub_same (lsub_same (lsub_same (lsub_same (lsub_none lsub_nil))))))) ?_
              exact ih6 _ _  (by omega) (by first | assumption | omega | decide) (by first | assumption | omega | decide) (by first | assumption | omega | decide) (by first | assumption | omega | decide)
            · refine Z_aload_n (n := 51) dX2_valueFor_50 rfl rfl ?_
              refine Z_getA (n := 54) dX2_valueFor_51 rfl ffX2_18 rfl rfl ?_
              refine Z_iload (n := 56) dX2_valueFor_54 rfl rfl ?_
              refine Z_iald (n := 57) dX2_valueFor_56 rfl rfl rfl (by first | decide | assumption) (by omega) (by omega) (fun r56 s56 => ?_)
              refine Z_goto (t := 67) dX2_valueFor_57 (by decide) ?_
              refine Z_istore (L' := [_, _, _, _, _, _, _]) (n := 69) dX2_valueFor_67 rfl (by decide) rfl rfl ?_
              refine Z_iinc (L' := [_, _, _, _, _, _, _]) (n := 72) dX2_valueFor_69 rfl rfl (by decide) rfl rfl (by omega) rfl ?_
              refine Z_goto (t := 6) dX2_valueFor_72 (by decide) ?_
              refine Z_loc (L' := [some _, some _, some _, some _, some _, some _, none]) (lsub_same (lsub_same (lsub_same (lsub_same (lsub_same (lsub_same (lsub_none lsub_nil))))))) ?_
              exact ih6 _ _  (by omega) (by first | assumption | omega | decide) (by first | assumption | omega | decide) (by first | assumption | omega | decide) (by first | assumption | omega | decide)
          · refine Z_iconst (n := 39) dX2_valueFor_38 rfl (by decide) ?_
            refine Z_goto (t := 43) dX2_valueFor_39 (by decide) ?_
            refine Z_istore (L' := [_, _, _, _, _, _, _]) (n := 45) dX2_valueFor_43 rfl (by decide) rfl rfl ?_
            refine Z_iload (n := 47) dX2_valueFor_45 rfl rfl ?_
            refine Z_if_eq (n := 50) (t := 60) dX2_valueFor_47 rfl (by decide) (fun c47 => ?_) (fun c47 => ?_)
            · refine Z_aload_n (n := 61) dX2_valueFor_60 rfl rfl ?_
              refine Z_getA (n := 64) dX2_valueFor_61 rfl ffX2_15 rfl rfl ?_
              refine Z_iload (n := 66) dX2_valueFor_64 rfl rfl ?_
              refine Z_iald (n := 67) dX2_valueFor_66 rfl rfl rfl (by first | decide | assumption) (by omega) (by omega) (fun r66 s66 => ?_)
              refine Z_istore (L' := [_, _, _, _, _, _, _]) (n := 69) dX2_valueFor_67 rfl (by decide) rfl rfl ?_
              refine Z_iinc (L' := [_, _, _, _, _, _, _]) (n := 72) dX2_valueFor_69 rfl rfl (by decide) rfl rfl (by omega) rfl ?_
              refine Z_goto (t := 6) dX2_valueFor_72 (by decide) ?_
              refine Z_loc (L' := [some _, some _, some _, some _, some _, some _, none]) (lsub_same (lsub_same (lsub_same (lsub_same (lsub_same (lsub_same (lsub_none lsub_nil))))))) ?_
              exact ih6 _ _  (by omega) (by first | assumption | omega | decide) (by first | assumption | omega | decide) (by first | assumption | omega | decide) (by first | assumption | omega | decide)
            · refine Z_aload_n (n := 51) dX2_valueFor_50 rfl rfl ?_
              refine Z_getA (n := 54) dX2_valueFor_51 rfl ffX2_18 rfl rfl ?_
              refine Z_iload (n := 56) dX2_valueFor_54 rfl rfl ?_
              refine Z_iald (n := 57) dX2_valueFor_56 rfl rfl rfl (by first | decide | assumption) (by omega) (by omega) (fun r56 s56 => ?_)
              refine Z_goto (t := 67) dX2_valueFor_57 (by decide) ?_
              refine Z_istore (L' := [_, _, _, _, _, _, _]) (n := 69) dX2_valueFor_67 rfl (by decide) rfl rfl ?_
              refine Z_iinc (L' := [_, _, _, _, _, _, _]) (n := 72) dX2_valueFor_69 rfl rfl (by decide) rfl rfl (by omega) rfl ?_
              refine Z_goto (t := 6) dX2_valueFor_72 (by decide) ?_
              refine Z_loc (L' := [some _, some _, some _, some _, some _, some _, none]) (lsub_same (lsub_same (lsub_same (lsub_same (lsub_same (lsub_same (lsub_none lsub_nil))))))) ?_
              exact ih6 _ _  (by omega) (by first | assumption | omega | decide) (by first | assumption | omega | decide) (by first | assumption | omega | decide) (by first | assumption | omega | decide)
  refine Z_loc (L' := [some _, some _, some _, some _, some _, some _, none]) (lsub_same (lsub_same (lsub_same (lsub_same (lsub_same (lsub_same (lsub_none lsub_nil))))))) ?_
  exact lp6 _ _ _  (Nat.lt_succ_self _) (by first | assumption | omega | decide) (by first | assumption | omega | decide) (by first | assumption | omega | decide) (by first | assumption | omega | decide)
set_option maxRecDepth 20000 in
theorem zX2_leastFor {G : tl_G} {M : zM} {J : zJ} {n s : Int} (h0 : 0 ≤ n) (h1 : n ≤ 251) : ZN G yX2_leastFor mX2_leastFor 1 kAll [vR 5, vI n, vI s, vR 2] F1 M J (qI (fun x M' J' => M' = M ∧ J' = J)) := by
  refine ZN_of (L := [_, _, _, _, _, _, _]) (by decide) rfl rfl (Nat.le_of_ble_eq_true rfl) rfl (fun hav => ?_)
  refine Z_iload_n (n := 1) dX2_leastFor_0 rfl rfl ?_
  refine Z_istore (L' := [_, _, _, _, _, _, _]) (n := 3) dX2_leastFor_1 rfl (by decide) rfl rfl ?_
  refine Z_iconst (n := 4) dX2_leastFor_3 rfl (by decide) ?_
  refine Z_istore (L' := [_, _, _, _, _, _, _]) (n := 6) dX2_leastFor_4 rfl (by decide) rfl rfl ?_
  refine Z_iconst (n := 7) dX2_leastFor_6 rfl (by decide) ?_
  refine Z_istore (L' := [_, _, _, _, _, _, _]) (n := 9) dX2_leastFor_7 rfl (by decide) rfl rfl ?_
  have lp9 : ∀ (N9 : Nat) (c a i : Int) , ((8 - i).toNat) < N9 → (0 ≤ c) → (c ≤ 251) → (0 ≤ i) → (i ≤ 8) → TZ G mX2_leastFor (tl_rm 1 0 0) 0 0 kAll M J 9 [some (vR 5), some (vI n), some (vI s), some (vR 2), some (vI c), some (vI a), some (vI i)] [] F1 M J (ZM G (zPost G kAll F1 M J (qI (fun x M' J' => M' = M ∧ J' = J))) 0 0) := by
    intro N9
    induction N9 with
    | zero => intro c a i  hN; omega
    | succ N9 ih9 =>
      intro c a i  hN9 i9_0 i9_1 i9_2 i9_3
      refine Z_iload (n := 11) dX2_leastFor_9 rfl rfl ?_
      refine Z_bipush (n := 13) dX2_leastFor_11 rfl (by decide) (by decide) ?_
      refine Z_icmp_ge (n := 16) (t := 89) dX2_leastFor_13 rfl (by decide) (fun c13 => ?_) (fun c13 => ?_)
      · refine Z_iload (n := 91) dX2_leastFor_89 rfl rfl ?_
        refine Z_iload_n (n := 92) dX2_leastFor_91 rfl rfl ?_
        refine Z_icmp_ne (n := 95) (t := 100) dX2_leastFor_92 rfl (by decide) (fun c92 => ?_) (fun c92 => ?_)
        · refine Z_bipush (n := 102) dX2_leastFor_100 rfl (by decide) (by decide) ?_
          refine Z_iret dX2_leastFor_102 rfl ?_
          exact ⟨rfl, rfl⟩
        · refine Z_iload (n := 97) dX2_leastFor_95 rfl rfl ?_
          refine Z_goto (t := 102) dX2_leastFor_97 (by decide) ?_
          refine Z_iret dX2_leastFor_102 rfl ?_
          exact ⟨rfl, rfl⟩
      · refine Z_iload (n := 18) dX2_leastFor_16 rfl rfl ?_
        refine Z_iconst (n := 19) dX2_leastFor_18 rfl (by decide) ?_
        refine Z_icmp_lt (n := 22) (t := 89) dX2_leastFor_19 rfl (by decide) (fun c19 => ?_) (fun c19 => ?_)
        · refine Z_iload (n := 91) dX2_leastFor_89 rfl rfl ?_
          refine Z_iload_n (n := 92) dX2_leastFor_91 rfl rfl ?_
          refine Z_icmp_ne (n := 95) (t := 100) dX2_leastFor_92 rfl (by decide) (fun c92 => ?_) (fun c92 => ?_)
          · refine Z_bipush (n := 102) dX2_leastFor_100 rfl (by decide) (by decide) ?_
            refine Z_iret dX2_leastFor_102 rfl ?_
            exact ⟨rfl, rfl⟩
          · refine Z_iload (n := 97) dX2_leastFor_95 rfl rfl ?_
            refine Z_goto (t := 102) dX2_leastFor_97 (by decide) ?_
            refine Z_iret dX2_leastFor_102 rfl ?_
            exact ⟨rfl, rfl⟩
        · refine Z_aload_n (n := 23) dX2_leastFor_22 rfl rfl ?_
          refine Z_getA (n := 26) dX2_leastFor_23 rfl ffX2_15 rfl rfl ?_
          refine Z_iload (n := 28) dX2_leastFor_26 rfl rfl ?_
          refine Z_iald (n := 29) dX2_leastFor_28 rfl rfl rfl (by first | decide | assumption) (by omega) (by omega) (fun r28 s28 => ?_)
          refine Z_iconst (n := 30) dX2_leastFor_29 rfl (by decide) ?_
          refine Z_icmp_ge (n := 33) (t := 44) dX2_leastFor_30 rfl (by decide) (fun c30 => ?_) (fun c30 => ?_)
          · refine Z_aload_n (n := 45) dX2_leastFor_44 rfl rfl ?_
            refine Z_getA (n := 48) dX2_leastFor_45 rfl ffX2_15 rfl rfl ?_
            refine Z_iload (n := 50) dX2_leastFor_48 rfl rfl ?_
            refine Z_iald (n := 51) dX2_leastFor_50 rfl rfl rfl (by first | decide | assumption) (by omega) (by omega) (fun r50 s50 => ?_)
            refine Z_istore (L' := [_, _, _, _, _, _, _]) (n := 53) dX2_leastFor_51 rfl (by decide) rfl rfl ?_
            refine Z_goto (t := 83) dX2_leastFor_53 (by decide) ?_
            refine Z_iinc (L' := [_, _, _, _, _, _, _]) (n := 86) dX2_leastFor_83 rfl rfl (by decide) rfl rfl (by omega) rfl ?_
            refine Z_goto (t := 9) dX2_leastFor_86 (by decide) ?_
            refine Z_loc (L' := [some _, some _, some _, some _, some _, some _, some _]) (lsub_same (lsub_same (lsub_same (lsub_same (lsub_same (lsub_same (lsub_same lsub_nil))))))) ?_
            exact ih9 _ _ _  (by omega) (by first | assumption | omega | decide) (by first | assumption | omega | decide) (by first | assumption | omega | decide) (by first | assumption | omega | decide)
          · refine Z_aload_n (n := 34) dX2_leastFor_33 rfl rfl ?_
            refine Z_getA (n := 37) dX2_leastFor_34 rfl ffX2_15 rfl rfl ?_
            refine Z_iload (n := 39) dX2_leastFor_37 rfl rfl ?_
            refine Z_iald (n := 40) dX2_leastFor_39 rfl rfl rfl (by first | decide | assumption) (by omega) (by omega) (fun r39 s39 => ?_)
            refine Z_iload_n (n := 41) dX2_leastFor_40 rfl rfl ?_
            refine Z_icmp_ne (n := 44) (t := 56) dX2_leastFor_41 rfl (by decide) (fun c41 => ?_) (fun c41 => ?_)
            · refine Z_iload (n := 58) dX2_leastFor_56 rfl rfl ?_
              refine Z_iconst (n := 59) dX2_leastFor_58 rfl (by decide) ?_
              refine Z_aload_n (n := 60) dX2_leastFor_59 rfl rfl ?_
              refine Z_aload_n (n := 61) dX2_leastFor_60 rfl rfl ?_
              refine Z_getA (n := 64) dX2_leastFor_61 rfl ffX2_11 rfl rfl ?_
              refine Z_iload (n := 66) dX2_leastFor_64 rfl rfl ?_
              refine Z_iald (n := 67) dX2_leastFor_66 rfl rfl rfl (by first | decide | assumption) (by omega) (by omega) (fun r66 s66 => ?_)
              rw [if_neg (by omega)] at s66
              refine Z_callVi (n := 70) [_] _ dX2_leastFor_67 rfl cwX2_95 rfl rfl rfl (Nat.le_of_ble_eq_true rfl) (by refine ⟨?_, ?_, ?_, ?_⟩ <;> exact Nat.le_of_ble_eq_true rfl) (fun _ h => h) (zX1_variableAt  (by first | assumption | omega | decide) (by first | assumption | omega | decide)) ?_
              intro x67 M67 J67 z67 f67 q67
              obtain ⟨e67_1, e67_2, h67⟩ := q67
              replace e67_1 := e67_1.symm; subst e67_1
              replace e67_2 := e67_2.symm; subst e67_2
              refine Z_ishl (n := 71) dX2_leastFor_70 rfl ?_
              refine Z_ior (n := 72) dX2_leastFor_71 rfl ?_
              refine Z_istore (L' := [_, _, _, _, _, _, _]) (n := 74) dX2_leastFor_72 rfl (by decide) rfl rfl ?_
              refine Z_aload_n (n := 75) dX2_leastFor_74 rfl rfl ?_
              refine Z_getA (n := 78) dX2_leastFor_75 rfl ffX2_18 rfl rfl ?_
              refine Z_iload (n := 80) dX2_leastFor_78 rfl rfl ?_
              refine Z_iald (n := 81) dX2_leastFor_80 rfl rfl rfl (by first | decide | assumption) (by omega) (by omega) (fun r80 s80 => ?_)
              refine Z_istore (L' := [_, _, _, _, _, _, _]) (n := 83) dX2_leastFor_81 rfl (by decide) rfl rfl ?_
              refine Z_iinc (L' := [_, _, _, _, _, _, _]) (n := 86) dX2_leastFor_83 rfl rfl (by decide) rfl rfl (by omega) rfl ?_
              refine Z_goto (t := 9) dX2_leastFor_86 (by decide) ?_
              refine Z_loc (L' := [some _, some _, some _, some _, some _, some _, some _]) (lsub_same (lsub_same (lsub_same (lsub_same (lsub_same (lsub_same (lsub_same lsub_nil))))))) ?_
              exact ih9 _ _ _  (by omega) (by first | assumption | omega | decide) (by first | assumption | omega | decide) (by first | assumption | omega | decide) (by first | assumption | omega | decide)
            · refine Z_aload_n (n := 45) dX2_leastFor_44 rfl rfl ?_
              refine Z_getA (n := 48) dX2_leastFor_45 rfl ffX2_15 rfl rfl ?_
              refine Z_iload (n := 50) dX2_leastFor_48 rfl rfl ?_
              refine Z_iald (n := 51) dX2_leastFor_50 rfl rfl rfl (by first | decide | assumption) (by omega) (by omega) (fun r50 s50 => ?_)
              refine Z_istore (L' := [_, _, _, _, _, _, _]) (n := 53) dX2_leastFor_51 rfl (by decide) rfl rfl ?_
              refine Z_goto (t := 83) dX2_leastFor_53 (by decide) ?_
              refine Z_iinc (L' := [_, _, _, _, _, _, _]) (n := 86) dX2_leastFor_83 rfl rfl (by decide) rfl rfl (by omega) rfl ?_
              refine Z_goto (t := 9) dX2_leastFor_86 (by decide) ?_
              refine Z_loc (L' := [some _, some _, some _, some _, some _, some _, some _]) (lsub_same (lsub_same (lsub_same (lsub_same (lsub_same (lsub_same (lsub_same lsub_nil))))))) ?_
              exact ih9 _ _ _  (by omega) (by first | assumption | omega | decide) (by first | assumption | omega | decide) (by first | assumption | omega | decide) (by first | assumption | omega | decide)
  refine Z_loc (L' := [some _, some _, some _, some _, some _, some _, some _]) (lsub_same (lsub_same (lsub_same (lsub_same (lsub_same (lsub_same (lsub_same lsub_nil))))))) ?_
  exact lp9 _ _ _ _  (Nat.lt_succ_self _) (by first | assumption | omega | decide) (by first | assumption | omega | decide) (by first | assumption | omega | decide) (by first | assumption | omega | decide)
set_option maxRecDepth 20000 in
theorem zX2_pathsFrom {G : tl_G} {M : zM} {J : zJ} (k : Nat) {n s e : Int} (h0 : 0 ≤ n) (h1 : n ≤ 251) (h6 : 0 ≤ e) (h7 : e + k = 8) : ZN G yX2_pathsFrom mX2_pathsFrom (k) kAll [vR 5, vI n, vI s, vI e] F1 M J (qI (fun x M' J' => M' = M ∧ J' = J)) := by
  induction k generalizing M J n s e with
  | zero =>
    refine ZN_of (L := [_, _, _, _]) (by decide) rfl rfl (Nat.le_of_ble_eq_true rfl) rfl (fun hav => ?_)
    refine Z_iload_n (n := 1) dX2_pathsFrom_0 rfl rfl ?_
    refine Z_iconst (n := 2) dX2_pathsFrom_1 rfl (by decide) ?_
    refine Z_icmp_lt (n := 5) (t := 11) dX2_pathsFrom_2 rfl (by decide) (fun c2 => ?_) (fun c2 => ?_)
    · refine Z_iload_n (n := 12) dX2_pathsFrom_11 rfl rfl ?_
      refine Z_iload_n (n := 13) dX2_pathsFrom_12 rfl rfl ?_
      refine Z_icmp_ne (n := 16) (t := 20) dX2_pathsFrom_13 rfl (by decide) (fun c13 => ?_) (fun c13 => ?_)
      · refine Z_iconst (n := 21) dX2_pathsFrom_20 rfl (by decide) ?_
        refine Z_iret dX2_pathsFrom_21 rfl ?_
        exact ⟨rfl, rfl⟩
      · refine Z_iconst (n := 17) dX2_pathsFrom_16 rfl (by decide) ?_
        refine Z_goto (t := 21) dX2_pathsFrom_17 (by decide) ?_
        refine Z_iret dX2_pathsFrom_21 rfl ?_
        exact ⟨rfl, rfl⟩
    · refine Z_iload_n (n := 6) dX2_pathsFrom_5 rfl rfl ?_
      refine Z_bipush (n := 8) dX2_pathsFrom_6 rfl (by decide) (by decide) ?_
      refine Z_icmp_lt (n := 11) (t := 22) dX2_pathsFrom_8 rfl (by decide) (fun c8 => ?_) (fun c8 => ?_)
      · omega
      · refine Z_iload_n (n := 12) dX2_pathsFrom_11 rfl rfl ?_
        refine Z_iload_n (n := 13) dX2_pathsFrom_12 rfl rfl ?_
        refine Z_icmp_ne (n := 16) (t := 20) dX2_pathsFrom_13 rfl (by decide) (fun c13 => ?_) (fun c13 => ?_)
        · refine Z_iconst (n := 21) dX2_pathsFrom_20 rfl (by decide) ?_
          refine Z_iret dX2_pathsFrom_21 rfl ?_
          exact ⟨rfl, rfl⟩
        · refine Z_iconst (n := 17) dX2_pathsFrom_16 rfl (by decide) ?_
          refine Z_goto (t := 21) dX2_pathsFrom_17 (by decide) ?_
          refine Z_iret dX2_pathsFrom_21 rfl ?_
          exact ⟨rfl, rfl⟩
  | succ k ih =>
    refine ZN_of (L := [_, _, _, _]) (by decide) rfl rfl (Nat.le_of_ble_eq_true rfl) rfl (fun hav => ?_)
    refine Z_iload_n (n := 1) dX2_pathsFrom_0 rfl rfl ?_
    refine Z_iconst (n := 2) dX2_pathsFrom_1 rfl (by decide) ?_
    refine Z_icmp_lt (n := 5) (t := 11) dX2_pathsFrom_2 rfl (by decide) (fun c2 => ?_) (fun c2 => ?_)
    · refine Z_iload_n (n := 12) dX2_pathsFrom_11 rfl rfl ?_
      refine Z_iload_n (n := 13) dX2_pathsFrom_12 rfl rfl ?_
      refine Z_icmp_ne (n := 16) (t := 20) dX2_pathsFrom_13 rfl (by decide) (fun c13 => ?_) (fun c13 => ?_)
      · refine Z_iconst (n := 21) dX2_pathsFrom_20 rfl (by decide) ?_
        refine Z_iret dX2_pathsFrom_21 rfl ?_
        exact ⟨rfl, rfl⟩
      · refine Z_iconst (n := 17) dX2_pathsFrom_16 rfl (by decide) ?_
        refine Z_goto (t := 21) dX2_pathsFrom_17 (by decide) ?_
        refine Z_iret dX2_pathsFrom_21 rfl ?_
        exact ⟨rfl, rfl⟩
    · refine Z_iload_n (n := 6) dX2_pathsFrom_5 rfl rfl ?_
      refine Z_bipush (n := 8) dX2_pathsFrom_6 rfl (by decide) (by decide) ?_
      refine Z_icmp_lt (n := 11) (t := 22) dX2_pathsFrom_8 rfl (by decide) (fun c8 => ?_) (fun c8 => ?_)
      · refine Z_aload_n (n := 23) dX2_pathsFrom_22 rfl rfl ?_
        refine Z_aload_n (n := 24) dX2_pathsFrom_23 rfl rfl ?_
        refine Z_getA (n := 27) dX2_pathsFrom_24 rfl ffX2_15 rfl rfl ?_
        refine Z_iload_n (n := 28) dX2_pathsFrom_27 rfl rfl ?_
        refine Z_iald (n := 29) dX2_pathsFrom_28 rfl rfl rfl (by first | decide | assumption) (by omega) (by omega) (fun r28 s28 => ?_)
        refine Z_iload_n (n := 30) dX2_pathsFrom_29 rfl rfl ?_
        refine Z_iload_n (n := 31) dX2_pathsFrom_30 rfl rfl ?_
        refine Z_iconst (n := 32) dX2_pathsFrom_31 rfl (by decide) ?_
        refine Z_iadd (n := 33) dX2_pathsFrom_32 rfl (by omega) ?_
        refine Z_callVi (n := 36) [_, _, _] _ dX2_pathsFrom_33 rfl cwX2_100 rfl rfl rfl (Nat.le_of_ble_eq_true rfl) ⟨by show (k) + 1 ≤ ((k + 1)); omega, by show 8 + (4 + 11) + 40 * (k) ≤ 40 * ((k + 1)); omega, Nat.le_refl _, Nat.le_refl _⟩ (fun _ h => h) (@ih _ _ _ _ _  (by first | assumption | omega | decide) (by first | assumption | omega | decide) (by first | assumption | omega | decide) (by first | assumption | omega | decide)) ?_
        intro x33 M33 J33 z33 f33 q33
        obtain ⟨e33_1, e33_2⟩ := q33
        replace e33_1 := e33_1.symm; subst e33_1
        replace e33_2 := e33_2.symm; subst e33_2
        refine Z_aload_n (n := 37) dX2_pathsFrom_36 rfl rfl ?_
        refine Z_aload_n (n := 38) dX2_pathsFrom_37 rfl rfl ?_
        refine Z_getA (n := 41) dX2_pathsFrom_38 rfl ffX2_18 rfl rfl ?_
        refine Z_iload_n (n := 42) dX2_pathsFrom_41 rfl rfl ?_
        refine Z_iald (n := 43) dX2_pathsFrom_42 rfl rfl rfl (by first | decide | assumption) (by omega) (by omega) (fun r42 s42 => ?_)
        refine Z_iload_n (n := 44) dX2_pathsFrom_43 rfl rfl ?_
        refine Z_iload_n (n := 45) dX2_pathsFrom_44 rfl rfl ?_
        refine Z_iconst (n := 46) dX2_pathsFrom_45 rfl (by decide) ?_
        refine Z_iadd (n := 47) dX2_pathsFrom_46 rfl (by omega) ?_
        refine Z_callVi (n := 50) [_, _, _] _ dX2_pathsFrom_47 rfl cwX2_100 rfl rfl rfl (Nat.le_of_ble_eq_true rfl) ⟨by show (k) + 1 ≤ ((k + 1)); omega, by show 8 + (4 + 11) + 40 * (k) ≤ 40 * ((k + 1)); omega, Nat.le_refl _, Nat.le_refl _⟩ (fun _ h => h) (@ih _ _ _ _ _  (by first | assumption | omega | decide) (by first | assumption | omega | decide) (by first | assumption | omega | decide) (by first | assumption | omega | decide)) ?_
        intro x47 M47 J47 z47 f47 q47
        obtain ⟨e47_1, e47_2⟩ := q47
        replace e47_1 := e47_1.symm; subst e47_1
        replace e47_2 := e47_2.symm; subst e47_2
        refine Z_iaddw (n := 51) dX2_pathsFrom_50 rfl ?_
        refine Z_iret dX2_pathsFrom_51 rfl ?_
        exact ⟨rfl, rfl⟩
      · refine Z_iload_n (n := 12) dX2_pathsFrom_11 rfl rfl ?_
        refine Z_iload_n (n := 13) dX2_pathsFrom_12 rfl rfl ?_
        refine Z_icmp_ne (n := 16) (t := 20) dX2_pathsFrom_13 rfl (by decide) (fun c13 => ?_) (fun c13 => ?_)
        · refine Z_iconst (n := 21) dX2_pathsFrom_20 rfl (by decide) ?_
          refine Z_iret dX2_pathsFrom_21 rfl ?_
          exact ⟨rfl, rfl⟩
        · refine Z_iconst (n := 17) dX2_pathsFrom_16 rfl (by decide) ?_
          refine Z_goto (t := 21) dX2_pathsFrom_17 (by decide) ?_
          refine Z_iret dX2_pathsFrom_21 rfl ?_
          exact ⟨rfl, rfl⟩
set_option maxRecDepth 20000 in
theorem zX2_pathCount {G : tl_G} {M : zM} {J : zJ} {n s : Int} (h0 : 0 ≤ n) (h1 : n ≤ 251) : ZN G yX2_pathCount mX2_pathCount 9 kAll [vR 5, vI n, vI s] F1 M J (qI (fun x M' J' => M' = M ∧ J' = J)) := by
  refine ZN_of (L := [_, _, _]) (by decide) rfl rfl (Nat.le_of_ble_eq_true rfl) rfl (fun hav => ?_)
  refine Z_aload_n (n := 1) dX2_pathCount_0 rfl rfl ?_
  refine Z_iload_n (n := 2) dX2_pathCount_1 rfl rfl ?_
  refine Z_iload_n (n := 3) dX2_pathCount_2 rfl rfl ?_
  refine Z_iconst (n := 4) dX2_pathCount_3 rfl (by decide) ?_
  refine Z_callVi (n := 7) [_, _, _] _ dX2_pathCount_4 rfl cwX2_100 rfl rfl rfl (Nat.le_of_ble_eq_true rfl) (by refine ⟨?_, ?_, ?_, ?_⟩ <;> exact Nat.le_of_ble_eq_true rfl) (fun _ h => h) (zX2_pathsFrom 8  (by first | assumption | omega | decide) (by first | assumption | omega | decide) (by first | assumption | omega | decide) (by first | assumption | omega | decide)) ?_
  intro x4 M4 J4 z4 f4 q4
  obtain ⟨e4_1, e4_2⟩ := q4
  replace e4_1 := e4_1.symm; subst e4_1
  replace e4_2 := e4_2.symm; subst e4_2
  refine Z_iret dX2_pathCount_7 rfl ?_
  exact ⟨rfl, rfl⟩
