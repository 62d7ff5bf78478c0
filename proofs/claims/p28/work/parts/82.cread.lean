/-! ===== the class: readers that mark, equal ===== -/
set_option maxRecDepth 20000 in
theorem zX3_nodes_k {G : tl_G} {M : zM} {J : zJ} {f : Int} (hc : cI M) : ZN G yX3_nodes mX3_nodes 11 kMarks [vR 0, vI f] F1 M J (qI (fun x M' J' => J' = J)) := by
  refine ZN_of (L := [_, _]) (by decide) rfl rfl (Nat.le_of_ble_eq_true rfl) rfl (fun hav => ?_)
  refine Z_aload_n (n := 1) dX3_nodes_0 rfl rfl ?_
  refine Z_iload_n (n := 2) dX3_nodes_1 rfl rfl ?_
  refine Z_callVi (n := 5) [_] _ dX3_nodes_2 rfl cwX3_139 rfl rfl (by first | rfl | exact nS0 (nA_at (by omega) (by omega))) (Nat.le_of_ble_eq_true rfl) (by refine ⟨?_, ?_, ?_, ?_⟩ <;> exact Nat.le_of_ble_eq_true rfl) (fun _ _ => trivial) (zX3_hasFunction  ) ?_
  intro x2 M2 J2 z2 f2 q2
  obtain ⟨e2_1, e2_2, h2⟩ := q2
  replace e2_1 := e2_1.symm; subst e2_1
  replace e2_2 := e2_2.symm; subst e2_2
  refine Z_if_ne (n := 8) (t := 10) dX3_nodes_5 rfl (by decide) (fun c5 => ?_) (fun c5 => ?_)
  · refine Z_aload_n (n := 11) dX3_nodes_10 rfl rfl ?_
    refine Z_getO (n := 14) dX3_nodes_11 rfl ffX3_25 (by first | rfl | exact nS0 (nA_at (by omega) (by omega))) (by first | rfl | exact nS0 (nA_at (by omega) (by omega))) ?_
    refine Z_aload_n (n := 15) dX3_nodes_14 rfl rfl ?_
    refine Z_getA (n := 18) dX3_nodes_15 rfl ffX3_29 (by first | rfl | exact nS0 (nA_at (by omega) (by omega))) (by first | rfl | exact nS0 (nA_at (by omega) (by omega))) ?_
    refine Z_iload_n (n := 19) dX3_nodes_18 rfl rfl ?_
    refine Z_iald (n := 20) dX3_nodes_19 rfl (by first | rfl | exact nS0 (nA_at (by omega) (by omega))) rfl (by first | decide | assumption) (by omega) (by omega) (fun r19 s19 => ?_)
    refine Z_callVi (n := 23) [_] _ dX3_nodes_20 rfl cwX3_152 rfl rfl (by first | rfl | exact nS0 (nA_at (by omega) (by omega))) (Nat.le_of_ble_eq_true rfl) (by refine ⟨?_, ?_, ?_, ?_⟩ <;> exact Nat.le_of_ble_eq_true rfl) (fun _ h => h) (zX2_nodeCount  (by first | assumption | omega | decide) (by first | assumption | omega | decide)) ?_
    intro x20 M20 J20 z20 f20 q20
    obtain ⟨e20_1, h20⟩ := q20
    replace e20_1 := e20_1.symm; subst e20_1
    refine Z_iret dX3_nodes_23 rfl ?_
    exact rfl
  · refine Z_iconst (n := 9) dX3_nodes_8 rfl (by decide) ?_
    refine Z_iret dX3_nodes_9 rfl ?_
    exact rfl
set_option maxRecDepth 20000 in
theorem zX3_common_k {G : tl_G} {M : zM} {J : zJ} {f g : Int} (hc : cI M) : ZN G yX3_common mX3_common 11 kMarks [vR 0, vI f, vI g] F1 M J (qI (fun x M' J' => J' = J)) := by
  refine ZN_of (L := [_, _, _]) (by decide) rfl rfl (Nat.le_of_ble_eq_true rfl) rfl (fun hav => ?_)
  refine Z_aload_n (n := 1) dX3_common_0 rfl rfl ?_
  refine Z_iload_n (n := 2) dX3_common_1 rfl rfl ?_
  refine Z_callVi (n := 5) [_] _ dX3_common_2 rfl cwX3_139 rfl rfl (by first | rfl | exact nS0 (nA_at (by omega) (by omega))) (Nat.le_of_ble_eq_true rfl) (by refine ⟨?_, ?_, ?_, ?_⟩ <;> exact Nat.le_of_ble_eq_true rfl) (fun _ _ => trivial) (zX3_hasFunction  ) ?_
  intro x2 M2 J2 z2 f2 q2
  obtain ⟨e2_1, e2_2, h2⟩ := q2
  replace e2_1 := e2_1.symm; subst e2_1
  replace e2_2 := e2_2.symm; subst e2_2
  refine Z_if_eq (n := 8) (t := 16) dX3_common_5 rfl (by decide) (fun c5 => ?_) (fun c5 => ?_)
  · refine Z_iconst (n := 17) dX3_common_16 rfl (by decide) ?_
    refine Z_iret dX3_common_17 rfl ?_
    exact rfl
  · refine Z_aload_n (n := 9) dX3_common_8 rfl rfl ?_
    refine Z_iload_n (n := 10) dX3_common_9 rfl rfl ?_
    refine Z_callVi (n := 13) [_] _ dX3_common_10 rfl cwX3_139 rfl rfl (by first | rfl | exact nS0 (nA_at (by omega) (by omega))) (Nat.le_of_ble_eq_true rfl) (by refine ⟨?_, ?_, ?_, ?_⟩ <;> exact Nat.le_of_ble_eq_true rfl) (fun _ _ => trivial) (zX3_hasFunction  ) ?_
    intro x10 M10 J10 z10 f10 q10
    obtain ⟨e10_1, e10_2, h10⟩ := q10
    replace e10_1 := e10_1.symm; subst e10_1
    replace e10_2 := e10_2.symm; subst e10_2
    refine Z_if_ne (n := 16) (t := 18) dX3_common_13 rfl (by decide) (fun c13 => ?_) (fun c13 => ?_)
    · refine Z_aload_n (n := 19) dX3_common_18 rfl rfl ?_
      refine Z_getO (n := 22) dX3_common_19 rfl ffX3_25 (by first | rfl | exact nS0 (nA_at (by omega) (by omega))) (by first | rfl | exact nS0 (nA_at (by omega) (by omega))) ?_
      refine Z_aload_n (n := 23) dX3_common_22 rfl rfl ?_
      refine Z_getA (n := 26) dX3_common_23 rfl ffX3_29 (by first | rfl | exact nS0 (nA_at (by omega) (by omega))) (by first | rfl | exact nS0 (nA_at (by omega) (by omega))) ?_
      refine Z_iload_n (n := 27) dX3_common_26 rfl rfl ?_
      refine Z_iald (n := 28) dX3_common_27 rfl (by first | rfl | exact nS0 (nA_at (by omega) (by omega))) rfl (by first | decide | assumption) (by omega) (by omega) (fun r27 s27 => ?_)
      refine Z_aload_n (n := 29) dX3_common_28 rfl rfl ?_
      refine Z_getA (n := 32) dX3_common_29 rfl ffX3_29 (by first | rfl | exact nS0 (nA_at (by omega) (by omega))) (by first | rfl | exact nS0 (nA_at (by omega) (by omega))) ?_
      refine Z_iload_n (n := 33) dX3_common_32 rfl rfl ?_
      refine Z_iald (n := 34) dX3_common_33 rfl (by first | rfl | exact nS0 (nA_at (by omega) (by omega))) rfl (by first | decide | assumption) (by omega) (by omega) (fun r33 s33 => ?_)
      refine Z_callVi (n := 37) [_, _] _ dX3_common_34 rfl cwX3_161 rfl rfl (by first | rfl | exact nS0 (nA_at (by omega) (by omega))) (Nat.le_of_ble_eq_true rfl) (by refine ⟨?_, ?_, ?_, ?_⟩ <;> exact Nat.le_of_ble_eq_true rfl) (fun _ h => h) (zX2_commonCount  (by first | assumption | omega | decide) (by first | assumption | omega | decide) (by first | assumption | omega | decide) (by first | assumption | omega | decide)) ?_
      intro x34 M34 J34 z34 f34 q34
      obtain ⟨e34_1, h34⟩ := q34
      replace e34_1 := e34_1.symm; subst e34_1
      refine Z_iret dX3_common_37 rfl ?_
      exact rfl
    · refine Z_iconst (n := 17) dX3_common_16 rfl (by decide) ?_
      refine Z_iret dX3_common_17 rfl ?_
      exact rfl
set_option maxRecDepth 20000 in
theorem zX3_level_k {G : tl_G} {M : zM} {J : zJ} {f v : Int} (hc : cI M) : ZN G yX3_level mX3_level 11 kMarks [vR 0, vI f, vI v] F1 M J (qI (fun x M' J' => J' = J)) := by
  refine ZN_of (L := [_, _, _]) (by decide) rfl rfl (Nat.le_of_ble_eq_true rfl) rfl (fun hav => ?_)
  refine Z_aload_n (n := 1) dX3_level_0 rfl rfl ?_
  refine Z_iload_n (n := 2) dX3_level_1 rfl rfl ?_
  refine Z_callVi (n := 5) [_] _ dX3_level_2 rfl cwX3_139 rfl rfl (by first | rfl | exact nS0 (nA_at (by omega) (by omega))) (Nat.le_of_ble_eq_true rfl) (by refine ⟨?_, ?_, ?_, ?_⟩ <;> exact Nat.le_of_ble_eq_true rfl) (fun _ _ => trivial) (zX3_hasFunction  ) ?_
  intro x2 M2 J2 z2 f2 q2
  obtain ⟨e2_1, e2_2, h2⟩ := q2
  replace e2_1 := e2_1.symm; subst e2_1
  replace e2_2 := e2_2.symm; subst e2_2
  refine Z_if_ne (n := 8) (t := 10) dX3_level_5 rfl (by decide) (fun c5 => ?_) (fun c5 => ?_)
  · refine Z_iload_n (n := 11) dX3_level_10 rfl rfl ?_
    refine Z_callSi (n := 14) [_] _ dX3_level_11 rfl cwX3_70 rfl rfl (Nat.le_of_ble_eq_true rfl) (by refine ⟨?_, ?_, ?_, ?_⟩ <;> exact Nat.le_of_ble_eq_true rfl) (fun _ _ => trivial) (zX3_isVariable  ) ?_
    intro x11 M11 J11 z11 f11 q11
    obtain ⟨e11_1, e11_2, h11⟩ := q11
    replace e11_1 := e11_1.symm; subst e11_1
    replace e11_2 := e11_2.symm; subst e11_2
    refine Z_if_ne (n := 17) (t := 20) dX3_level_14 rfl (by decide) (fun c14 => ?_) (fun c14 => ?_)
    · refine Z_aload_n (n := 21) dX3_level_20 rfl rfl ?_
      refine Z_getO (n := 24) dX3_level_21 rfl ffX3_25 (by first | rfl | exact nS0 (nA_at (by omega) (by omega))) (by first | rfl | exact nS0 (nA_at (by omega) (by omega))) ?_
      refine Z_aload_n (n := 25) dX3_level_24 rfl rfl ?_
      refine Z_getA (n := 28) dX3_level_25 rfl ffX3_29 (by first | rfl | exact nS0 (nA_at (by omega) (by omega))) (by first | rfl | exact nS0 (nA_at (by omega) (by omega))) ?_
      refine Z_iload_n (n := 29) dX3_level_28 rfl rfl ?_
      refine Z_iald (n := 30) dX3_level_29 rfl (by first | rfl | exact nS0 (nA_at (by omega) (by omega))) rfl (by first | decide | assumption) (by omega) (by omega) (fun r29 s29 => ?_)
      refine Z_aload_n (n := 31) dX3_level_30 rfl rfl ?_
      refine Z_getO (n := 34) dX3_level_31 rfl ffX3_18 (by first | rfl | exact nS0 (nA_at (by omega) (by omega))) (by first | rfl | exact nS0 (nA_at (by omega) (by omega))) ?_
      refine Z_iload_n (n := 35) dX3_level_34 rfl rfl ?_
      refine Z_callVi (n := 38) [_] _ dX3_level_35 rfl cwX3_174 rfl rfl (by first | rfl | exact nS0 (nA_at (by omega) (by omega))) (Nat.le_of_ble_eq_true rfl) (by refine ⟨?_, ?_, ?_, ?_⟩ <;> exact Nat.le_of_ble_eq_true rfl) (fun _ _ => trivial) (zX1_placeOf  (by first | assumption | omega | decide) (by first | assumption | omega | decide)) ?_
      intro x35 M35 J35 z35 f35 q35
      obtain ⟨e35_1, e35_2, h35⟩ := q35
      replace e35_1 := e35_1.symm; subst e35_1
      replace e35_2 := e35_2.symm; subst e35_2
      refine Z_callVi (n := 41) [_, _] _ dX3_level_38 rfl cwX3_168 rfl rfl (by first | rfl | exact nS0 (nA_at (by omega) (by omega))) (Nat.le_of_ble_eq_true rfl) (by refine ⟨?_, ?_, ?_, ?_⟩ <;> exact Nat.le_of_ble_eq_true rfl) (fun _ h => h) (zX2_nodeCountAt  (by first | assumption | omega | decide) (by first | assumption | omega | decide)) ?_
      intro x38 M38 J38 z38 f38 q38
      obtain ⟨e38_1, h38⟩ := q38
      replace e38_1 := e38_1.symm; subst e38_1
      refine Z_iret dX3_level_41 rfl ?_
      exact rfl
    · refine Z_bipush (n := 19) dX3_level_17 rfl (by decide) (by decide) ?_
      refine Z_iret dX3_level_19 rfl ?_
      exact rfl
  · refine Z_iconst (n := 9) dX3_level_8 rfl (by decide) ?_
    refine Z_iret dX3_level_9 rfl ?_
    exact rfl
set_option maxRecDepth 20000 in
theorem zX3_support_k {G : tl_G} {M : zM} {J : zJ} {f : Int} (hc : cI M) : ZN G yX3_support mX3_support 11 kMarks [vR 0, vI f] F1 M J (qI (fun x M' J' => J' = J)) := by
  refine ZN_of (L := [_, _, _, _]) (by decide) rfl rfl (Nat.le_of_ble_eq_true rfl) rfl (fun hav => ?_)
  refine Z_aload_n (n := 1) dX3_support_0 rfl rfl ?_
  refine Z_iload_n (n := 2) dX3_support_1 rfl rfl ?_
  refine Z_callVi (n := 5) [_] _ dX3_support_2 rfl cwX3_139 rfl rfl (by first | rfl | exact nS0 (nA_at (by omega) (by omega))) (Nat.le_of_ble_eq_true rfl) (by refine ⟨?_, ?_, ?_, ?_⟩ <;> exact Nat.le_of_ble_eq_true rfl) (fun _ _ => trivial) (zX3_hasFunction  ) ?_
  intro x2 M2 J2 z2 f2 q2
  obtain ⟨e2_1, e2_2, h2⟩ := q2
  replace e2_1 := e2_1.symm; subst e2_1
  replace e2_2 := e2_2.symm; subst e2_2
  refine Z_if_ne (n := 8) (t := 10) dX3_support_5 rfl (by decide) (fun c5 => ?_) (fun c5 => ?_)
  · refine Z_iconst (n := 11) dX3_support_10 rfl (by decide) ?_
    refine Z_istore_n (L' := [_, _, _, _]) (n := 12) dX3_support_11 rfl (by decide) rfl rfl ?_
    refine Z_iconst (n := 13) dX3_support_12 rfl (by decide) ?_
    refine Z_istore_n (L' := [_, _, _, _]) (n := 14) dX3_support_13 rfl (by decide) rfl rfl ?_
    have lp14 : ∀ (N14 : Nat) (n p : Int) (M14 : zM) (J14 : zJ), ((8 - p).toNat) < N14 → (J14 = J) → (0 ≤ p) → (p ≤ 8) → (pI M14) → (M14 12 = M 12) → TZ G mX3_support (tl_rm 11 0 0) 0 0 kMarks M J 14 [some (vR 0), some (vI f), some (vI n), some (vI p)] [] F1 M14 J14 (ZM G (zPost G kMarks F1 M J (qI (fun x M' J' => J' = J))) 0 0) := by
      intro N14
      induction N14 with
      | zero => intro n p M14 J14 hN; omega
      | succ N14 ih14 =>
        intro n p M14 J14 hN14 i14_0 i14_1 i14_2 i14_3 i14_4
        refine Z_iload_n (n := 15) dX3_support_14 rfl rfl ?_
        refine Z_bipush (n := 17) dX3_support_15 rfl (by decide) (by decide) ?_
        refine Z_icmp_ge (n := 20) (t := 56) dX3_support_17 rfl (by decide) (fun c17 => ?_) (fun c17 => ?_)
        · refine Z_iload_n (n := 57) dX3_support_56 rfl rfl ?_
          refine Z_iret dX3_support_57 rfl ?_
          exact i14_0
        · refine Z_aload_n (n := 21) dX3_support_20 rfl rfl ?_
          refine Z_getO (n := 24) dX3_support_21 rfl ffX3_25 (by first | rfl | exact nS0 (nA_at (by omega) (by omega))) (by first | rfl | exact nS0 (nA_at (by omega) (by omega))) ?_
          refine Z_aload_n (n := 25) dX3_support_24 rfl rfl ?_
          refine Z_getA (n := 28) dX3_support_25 rfl ffX3_29 (by first | rfl | exact nS0 (nA_at (by omega) (by omega))) (by first | rfl | exact nS0 (nA_at (by omega) (by omega))) ?_
          refine Z_iload_n (n := 29) dX3_support_28 rfl rfl ?_
          refine Z_iald (n := 30) dX3_support_29 rfl (by first | rfl | exact nS0 (nA_at (by omega) (by omega))) rfl (by first | decide | assumption) (by omega) (by omega) (fun r29 s29 => ?_)
          try simp only [i14_4] at r29 s29 ⊢
          refine Z_iload_n (n := 31) dX3_support_30 rfl rfl ?_
          refine Z_callVi (n := 34) [_, _] _ dX3_support_31 rfl cwX3_168 rfl rfl (by first | rfl | exact nS0 (nA_at (by omega) (by omega))) (Nat.le_of_ble_eq_true rfl) (by refine ⟨?_, ?_, ?_, ?_⟩ <;> exact Nat.le_of_ble_eq_true rfl) (fun _ h => h) (zX2_nodeCountAt  (by first | assumption | omega | decide) (by first | assumption | omega | decide)) ?_
          intro x31 M31 J31 z31 f31 q31
          obtain ⟨e31_1, h31⟩ := q31
          replace e31_1 := e31_1.symm; subst e31_1
          refine Z_if_le (n := 37) (t := 50) dX3_support_34 rfl (by decide) (fun c34 => ?_) (fun c34 => ?_)
          · refine Z_iinc (L' := [_, _, _, _]) (n := 53) dX3_support_50 rfl rfl (by decide) rfl rfl (by omega) rfl ?_
            refine Z_goto (t := 14) dX3_support_53 (by decide) ?_
            refine Z_loc (L' := [some _, some _, some _, some _]) (lsub_same (lsub_same (lsub_same (lsub_same lsub_nil)))) ?_
            exact ih14 _ _ _ _ (by omega) (by first | rfl | assumption) (by first | assumption | omega | decide) (by first | assumption | omega | decide) (by first | exact hc.1 | exact pI_fr i14_3 (f31 5 (by decide)).1 (f31 6 (by decide)).1 (f31 10 (by decide)).1 (f31 11 (by decide)).1) (by first | rfl | exact ((f31 12 (by decide)).1).trans i14_4)
          · refine Z_iload_n (n := 38) dX3_support_37 rfl rfl ?_
            refine Z_iconst (n := 39) dX3_support_38 rfl (by decide) ?_
            refine Z_aload_n (n := 40) dX3_support_39 rfl rfl ?_
            refine Z_getO (n := 43) dX3_support_40 rfl ffX3_18 (by first | rfl | exact nS0 (nA_at (by omega) (by omega))) (by first | rfl | exact nS0 (nA_at (by omega) (by omega))) ?_
            refine Z_iload_n (n := 44) dX3_support_43 rfl rfl ?_
            refine Z_callVi (n := 47) [_] _ dX3_support_44 rfl cwX3_114 rfl rfl (by first | rfl | exact nS0 (nA_at (by omega) (by omega))) (Nat.le_of_ble_eq_true rfl) (by refine ⟨?_, ?_, ?_, ?_⟩ <;> exact Nat.le_of_ble_eq_true rfl) (fun _ _ => trivial) (zX1_variableAt  (by first | assumption | omega | decide) (by first | assumption | omega | decide)) ?_
            intro x44 M44 J44 z44 f44 q44
            obtain ⟨e44_1, e44_2, h44⟩ := q44
            replace e44_1 := e44_1.symm; subst e44_1
            replace e44_2 := e44_2.symm; subst e44_2
            refine Z_ishl (n := 48) dX3_support_47 rfl ?_
            refine Z_ior (n := 49) dX3_support_48 rfl ?_
            refine Z_istore_n (L' := [_, _, _, _]) (n := 50) dX3_support_49 rfl (by decide) rfl rfl ?_
            refine Z_iinc (L' := [_, _, _, _]) (n := 53) dX3_support_50 rfl rfl (by decide) rfl rfl (by omega) rfl ?_
            refine Z_goto (t := 14) dX3_support_53 (by decide) ?_
            refine Z_loc (L' := [some _, some _, some _, some _]) (lsub_same (lsub_same (lsub_same (lsub_same lsub_nil)))) ?_
            exact ih14 _ _ _ _ (by omega) (by first | rfl | assumption) (by first | assumption | omega | decide) (by first | assumption | omega | decide) (by first | exact hc.1 | exact pI_fr i14_3 (f31 5 (by decide)).1 (f31 6 (by decide)).1 (f31 10 (by decide)).1 (f31 11 (by decide)).1) (by first | rfl | exact ((f31 12 (by decide)).1).trans i14_4)
    refine Z_loc (L' := [some _, some _, some _, some _]) (lsub_same (lsub_same (lsub_same (lsub_same lsub_nil)))) ?_
    exact lp14 _ _ _ _ _ (Nat.lt_succ_self _) (by first | rfl | assumption) (by first | assumption | omega | decide) (by first | assumption | omega | decide) (by first | exact hc.1 | exact pI_fr i14_3 (f31 5 (by decide)).1 (f31 6 (by decide)).1 (f31 10 (by decide)).1 (f31 11 (by decide)).1) (by first | rfl | exact ((f31 12 (by decide)).1).trans i14_4)
  · refine Z_iconst (n := 9) dX3_support_8 rfl (by decide) ?_
    refine Z_iret dX3_support_9 rfl ?_
    exact rfl
def mdE (M M2 : zM) : Prop := ∃ E : Lb → Prop, mid M M2 E
theorem mid_cg {M M2 M3 : zM} {E : Lb → Prop} (h : mid M M2 E) (o : ∀ a : Nat, ¬ a = 0 → M3 a = M2 a) (h07 : M3 0 7 = M2 0 7) : mid M M3 E := by
  obtain ⟨⟨S, hS, hR⟩, hh, h58, hlb, hno⟩ := h
  have hrt : rt M3 = rt M2 := rt_cg (o 12 (by decide)) (o 13 (by decide)) (o 15 (by decide)) h07
  have hd : den M3 = den M2 := den_cg (o 6 (by decide)) (o 7 (by decide)) (o 8 (by decide))
  refine ⟨⟨S, plo_cg (o 5 (by decide)) (o 6 (by decide)) (o 7 (by decide)) (o 8 (by decide)) (o 10 (by decide)) (o 11 (by decide)) hS, fun x hx => hR x (by rw [← hrt]; exact hx)⟩, fun j a b => ?_, by rw [o 5 (by decide)]; exact h58, fun y => ?_, hno⟩
  · rw [o 12 (by decide), hd]
    exact hh j a b
  · rw [LBc_cg (o 6 (by decide)) (o 7 (by decide)) (o 8 (by decide)) hrt]
    exact hlb y
/-- the end of a call that gives nothing -/
theorem mid_end {M M2 M3 : zM} (h : mdE M M2) (o : ∀ a : Nat, ¬ a = 0 → ¬ a = 13 → M3 a = M2 a) (h13 : ∀ g : Int, 0 ≤ g → g < 40 → M3 13 g = -1) (h07 : M3 0 7 = 0) : hkp M M3 := by
  obtain ⟨E, ⟨S, hS, hR⟩, hh, h58, hlb, hno⟩ := h
  have hd : den M3 = den M2 := den_cg (o 6 (by decide) (by decide)) (o 7 (by decide) (by decide)) (o 8 (by decide) (by decide))
  have e12 : M3 12 = M2 12 := o 12 (by decide) (by decide)
  have e5 : M3 5 = M2 5 := o 5 (by decide) (by decide)
  have hr : ∀ z : Int, rt M3 z → z = -1 ∨ ∃ j : Int, (0 ≤ j ∧ j < 12) ∧ z = M2 12 j := fun z hz => by
    rcases hz with ⟨j, jb, q⟩ | ⟨g, gb, q⟩ | ⟨k, kb, q⟩
    · rw [e12] at q
      exact Or.inr ⟨j, jb, q⟩
    · exact Or.inl (q.trans (h13 g gb.1 gb.2))
    · rw [h07] at kb
      exact absurd (Int.lt_of_le_of_lt kb.1 kb.2) (by decide)
  refine ⟨⟨⟨S, plo_cg e5 (o 6 (by decide) (by decide)) (o 7 (by decide) (by decide)) (o 8 (by decide) (by decide)) (o 10 (by decide) (by decide)) (o 11 (by decide) (by decide)) hS, fun z hz => ?_⟩, ?_, h13, h07⟩, by rw [e5]; exact h58, fun j a b => by rw [e12, hd]; exact hh j a b⟩
  · rcases hr z hz with q | ⟨j, jb, q⟩
    · exact Or.inl q
    · exact hR z (Or.inl ⟨j, jb, q⟩)
  · rw [e5, h58]
    refine fun ho => hno (over_mono (fun y hy => ?_) ho)
    obtain ⟨z, a, b, c⟩ := hy
    obtain ⟨j, jb, q⟩ := (hr z a).resolve_left b
    rw [hd] at c
    exact (hlb y).mp ⟨z, Or.inl ⟨j, jb, q⟩, b, c⟩
def eqI (M M2 : zM) (ap o : Int) : Prop := mdE M M2 ∧ (ap = 0 → (∀ x : Int, 0 ≤ x → x < 40 → M2 13 x = -1) ∧ M2 0 7 ≤ 2 * o)
def eqC (M M2 : zM) (p q o : Int) : Prop := mdE M M2 ∧ ((p = -1 ∧ q = -1) ∨ (¬ p = -1 ∧ rt M2 p ∧ (q = -1 ∨ (¬ q = -1 ∧ rt M2 q ∧ (∀ x : Int, 0 ≤ x → x < 40 → M2 13 x = -1) ∧ M2 0 7 ≤ 2 * o + 2))))
theorem eq_0 {M M2 : zM} (hb : CB M) (o : ∀ a : Nat, ¬ a = 0 → M2 a = M a) (h07 : M2 0 7 = M 0 7) : eqI M M2 0 0 :=
  ⟨⟨_, mid_0 hb o h07⟩, fun _ => ⟨fun x a b => by rw [o 13 (by decide)]; exact hb.2.2.1 x a b, by rw [h07, hb.2.2.2]; decide⟩⟩
theorem eq_cg {M M2 M3 : zM} {ap p : Int} (h : eqI M M2 ap p) (o : ∀ a : Nat, ¬ a = 0 → M3 a = M2 a) (h07 : M3 0 7 = M2 0 7) : eqI M M3 ap p := by
  obtain ⟨⟨E, m⟩, c⟩ := h
  exact ⟨⟨E, mid_cg m o h07⟩, fun t => ⟨fun x a b => by rw [o 13 (by decide)]; exact (c t).1 x a b, by rw [h07]; exact (c t).2⟩⟩
theorem eq_step {M M2 M3 : zM} {F : FN} {p q o x : Int} (h : eqC M M2 p q o) (hq : ((p = -1 ∨ q = -1 ∨ (0 : Int) = -1) ∧ x = -1 ∧ M3 = M2) ∨ ((¬ p = -1 ∧ ¬ q = -1 ∧ ¬ (0 : Int) = -1) ∧ stQ M2 F x M3)) (h12 : M3 12 = M2 12) (h13 : M3 13 = M2 13) (h15 : M3 15 = M2 15) : eqI M M3 x (o + 1) ∧ (-1 ≤ x ∧ x ≤ 251) := by
  obtain ⟨⟨E, md⟩, hc⟩ := h
  rcases hq with ⟨-, e, e3⟩ | ⟨⟨a, b, -⟩, sq⟩
  · rw [e3]
    exact ⟨⟨⟨E, md⟩, fun t => absurd (t.symm.trans e) (by decide)⟩, by omega⟩
  · obtain ⟨md', -, S, hS, -, hx⟩ := mid_st md sq h12 h13 h15
    obtain ⟨-, -, -, k07, -⟩ := sq
    refine ⟨⟨⟨E, md'⟩, fun t => ?_⟩, ?_⟩
    · obtain ⟨-, -, c⟩ := hc.resolve_left (fun w => a w.1)
      obtain ⟨-, -, c1, c2⟩ := c.resolve_left b
      exact ⟨fun z z0 z1 => by rw [h13]; exact c1 z z0 z1, by omega⟩
    · rcases hx with z | z
      · omega
      · have := okN_in hS.1 z
        omega
theorem bdX_md {M0 M' : zM} {E : Lb → Prop} {kd : Int → Int} {od : Int → Int → Int} {pl : Int → Int} {g x : Int} (h : bdX M0 E kd od pl g x M') : mdE M0 M' ∧ (¬ x = -1 → rt M' x ∧ ∀ z : Int, 0 ≤ z → z < 40 → M' 13 z = -1) := by
  obtain ⟨L, -, h⟩ := h
  rcases h with ⟨a, -, b⟩ | ⟨-, -, m, ⟨r, -⟩, c⟩
  · exact ⟨b, fun t => absurd a t⟩
  · exact ⟨⟨_, m⟩, fun _ => ⟨r, c⟩⟩
theorem eq_two {M M1 M2 M3 : zM} {p q o : Int} (k1 : kpQ M1 p M2) (k2 : kpQ M2 q M3) (hp : ¬ p = -1) (h0 : 0 ≤ M1 0 7) (h7 : M1 0 7 ≤ 2 * o) (m : mdE M M3) (b : ¬ q = -1 → rt M3 q ∧ ∀ z : Int, 0 ≤ z → z < 40 → M3 13 z = -1) : eqC M M3 p q o := by
  obtain ⟨a1, a2, a3⟩ := k1
  obtain ⟨b1, b2, b3⟩ := k2
  obtain ⟨c1, c2⟩ := a3 hp
  refine ⟨m, Or.inr ⟨hp, Or.inr (Or.inr ⟨M1 0 7, ⟨h0, by omega⟩, ?_⟩), ?_⟩⟩
  · rw [b2 _ (by omega)]
    exact c2.symm
  · by_cases e : q = -1
    · exact Or.inl e
    · exact Or.inr ⟨e, (b e).1, (b e).2, by omega⟩
theorem eq_C {M M2 : zM} {p q o : Int} (h : eqC M M2 p q o) : (p = -1 ∨ opr M2 p) ∧ (q = -1 ∨ opr M2 q) := by
  rcases h.2 with ⟨a, b⟩ | ⟨a, b, c⟩
  · exact ⟨Or.inl a, Or.inl b⟩
  · refine ⟨Or.inr (Or.inr (Or.inr ⟨b, a⟩)), ?_⟩
    rcases c with c | ⟨c, d, -⟩
    · exact Or.inl c
    · exact Or.inr (Or.inr (Or.inr ⟨d, c⟩))
theorem cI_kp {M M' : zM} {J J' : zJ} (hc : cI M) (h : hkp M M') (fr : ∀ a, kFc a → M' a = M a ∧ J' a = J a) : cI M' := by
  obtain ⟨⟨⟨S, hS, -⟩, -⟩, -⟩ := h
  exact cI_mk hc (fun a ha => fr a (by unfold kPub at ha; unfold kFc; omega)) (plo_pI hS) (ordOK_fr hc.2.1 (fr 4 (by decide)).1)
set_option maxRecDepth 20000 in
theorem zX3_notePart_f {G : tl_G} {M : zM} {J : zJ} {o v : Int} (h0 : -1 ≤ v) (h1 : v ≤ 251) : ZN G yX3_notePart mX3_notePart 2 k0 [vR 0, vI o, vI v] F1 M J (qV (fun M' J' => J' = J ∧ M' 0 7 = M 0 7)) := by
  refine ZN_of (L := [_, _, _]) (by decide) rfl rfl (Nat.le_of_ble_eq_true rfl) rfl (fun hav => ?_)
  refine Z_iload_n (n := 1) dX3_notePart_0 rfl rfl ?_
  refine Z_iconst (n := 2) dX3_notePart_1 rfl (by decide) ?_
  refine Z_icmp_eq (n := 5) (t := 31) dX3_notePart_2 rfl (by decide) (fun c2 => ?_) (fun c2 => ?_)
  · refine Z_vret dX3_notePart_31 rfl ?_
    refine ⟨rfl, ?_⟩
    first
      | rfl
      | (rw [uz_n (by decide), uz_n (by decide)])
  · refine Z_iload_n (n := 6) dX3_notePart_5 rfl rfl ?_
    refine Z_if_eq (n := 9) (t := 31) dX3_notePart_6 rfl (by decide) (fun c6 => ?_) (fun c6 => ?_)
    · refine Z_vret dX3_notePart_31 rfl ?_
      refine ⟨rfl, ?_⟩
      first
        | rfl
        | (rw [uz_n (by decide), uz_n (by decide)])
    · refine Z_aload_n (n := 10) dX3_notePart_9 rfl rfl ?_
      refine Z_iload_n (n := 11) dX3_notePart_10 rfl rfl ?_
      refine Z_putI (n := 14) (ki := 9) dX3_notePart_11 rfl ffX3_49 rfl (by decide) (by first | rfl | exact nS0 (nA_at (by omega) (by omega))) rfl (by first | exact (show zI o from hav (vI o) (by simp)).1 | exact (show zI o from hav (vI o) (by simp)).2) (by first | exact (show zI o from hav (vI o) (by simp)).1 | exact (show zI o from hav (vI o) (by simp)).2) (by decide) ?_
      refine Z_aload_n (n := 15) dX3_notePart_14 rfl rfl ?_
      refine Z_aload_n (n := 16) dX3_notePart_15 rfl rfl ?_
      refine Z_getO (n := 19) dX3_notePart_16 rfl ffX3_25 (by first | rfl | exact nS0 (nA_at (by omega) (by omega))) (by first | rfl | exact nS0 (nA_at (by omega) (by omega))) ?_
      refine Z_iload_n (n := 20) dX3_notePart_19 rfl rfl ?_
      refine Z_iconst (n := 21) dX3_notePart_20 rfl (by decide) ?_
      refine Z_aload_n (n := 22) dX3_notePart_21 rfl rfl ?_
      refine Z_getO (n := 25) dX3_notePart_22 rfl ffX3_18 (by first | rfl | exact nS0 (nA_at (by omega) (by omega))) (by first | rfl | exact nS0 (nA_at (by omega) (by omega))) ?_
      refine Z_callVi (n := 28) [_, _, _] _ dX3_notePart_25 rfl cwX3_175 rfl rfl (by first | rfl | exact nS0 (nA_at (by omega) (by omega))) (Nat.le_of_ble_eq_true rfl) (by refine ⟨?_, ?_, ?_, ?_⟩ <;> exact Nat.le_of_ble_eq_true rfl) (fun _ _ => trivial) (zX2_leastFor  (by first | assumption | omega | decide) (by first | assumption | omega | decide)) ?_
      intro x25 M25 J25 z25 f25 q25
      obtain ⟨e25_1, e25_2⟩ := q25
      replace e25_1 := e25_1.symm; subst e25_1
      replace e25_2 := e25_2.symm; subst e25_2
      refine Z_putI (n := 31) (ki := 10) dX3_notePart_28 rfl ffX3_52 rfl (by decide) (by first | rfl | exact nS0 (nA_at (by omega) (by omega))) rfl (by first | exact z25.1 | exact z25.2) (by first | exact z25.1 | exact z25.2) (by decide) ?_
      refine Z_vret dX3_notePart_31 rfl ?_
      refine ⟨rfl, ?_⟩
      first
        | rfl
        | (rw [uz_n (by decide), uz_n (by decide)])
set_option maxRecDepth 20000 in
theorem zX3_equal_f {G : tl_G} {M : zM} {J : zJ} {net oth : Int} (hc : cI M) (hb : CB M) : ZN G yX3_equal mX3_equal 14 kFc [vR 0, vI net, vI oth] F1 M J (qI (fun x M' J' => J' = J ∧ cI M' ∧ hkp M M')) := by
  refine ZN_of (L := [_, _, _, _, _, _, _, _]) (by decide) rfl rfl (Nat.le_of_ble_eq_true rfl) rfl (fun hav => ?_)
  refine Z_iload_n (n := 1) dX3_equal_0 rfl rfl ?_
  refine Z_callSi (n := 4) [_] _ dX3_equal_1 rfl cwX3_62 rfl rfl (Nat.le_of_ble_eq_true rfl) (by refine ⟨?_, ?_, ?_, ?_⟩ <;> exact Nat.le_of_ble_eq_true rfl) (fun _ _ => trivial) (zX3_isNet  ) ?_
  intro x1 M1 J1 z1 f1 q1
  obtain ⟨e1_1, e1_2, h1⟩ := q1
  replace e1_1 := e1_1.symm; subst e1_1
  replace e1_2 := e1_2.symm; subst e1_2
  refine Z_if_eq (n := 7) (t := 14) dX3_equal_4 rfl (by decide) (fun c4 => ?_) (fun c4 => ?_)
  · refine Z_iconst (n := 15) dX3_equal_14 rfl (by decide) ?_
    refine Z_iret dX3_equal_15 rfl ?_
    exact ⟨rfl, hc, hkp_0 hb⟩
  · refine Z_iload_n (n := 8) dX3_equal_7 rfl rfl ?_
    refine Z_callSi (n := 11) [_] _ dX3_equal_8 rfl cwX3_62 rfl rfl (Nat.le_of_ble_eq_true rfl) (by refine ⟨?_, ?_, ?_, ?_⟩ <;> exact Nat.le_of_ble_eq_true rfl) (fun _ _ => trivial) (zX3_isNet  ) ?_
    intro x8 M8 J8 z8 f8 q8
    obtain ⟨e8_1, e8_2, h8⟩ := q8
    replace e8_1 := e8_1.symm; subst e8_1
    replace e8_2 := e8_2.symm; subst e8_2
    refine Z_if_ne (n := 14) (t := 16) dX3_equal_11 rfl (by decide) (fun c11 => ?_) (fun c11 => ?_)
    · refine Z_aload_n (n := 17) dX3_equal_16 rfl rfl ?_
      refine Z_getA (n := 20) dX3_equal_17 rfl ffX3_11 (by first | rfl | exact nS0 (nA_at (by omega) (by omega))) (by first | rfl | exact nS0 (nA_at (by omega) (by omega))) ?_
      refine Z_iload_n (n := 21) dX3_equal_20 rfl rfl ?_
      refine Z_aald (n := 22) dX3_equal_21 rfl (by first | rfl | exact nS0 (nA_at (by omega) (by omega))) (by decide) (by omega) (by omega) (nA_P (by omega) (by omega)) ?_
      refine Z_callVi (n := 25) [] _ dX3_equal_22 rfl cwX3_181 rfl rfl (by first | rfl | exact nS0 (nA_at (by omega) (by omega))) (Nat.le_of_ble_eq_true rfl) (by refine ⟨?_, ?_, ?_, ?_⟩ <;> exact Nat.le_of_ble_eq_true rfl) (fun _ _ => trivial) (zX0_outputCount  (by exact nA_at (by omega) (by omega))) ?_
      intro x22 M22 J22 z22 f22 q22
      obtain ⟨e22_1, e22_2, h22⟩ := q22
      replace e22_1 := e22_1.symm; subst e22_1
      replace e22_2 := e22_2.symm; subst e22_2
      refine Z_istore_n (L' := [_, _, _, _, _, _, _, _]) (n := 26) dX3_equal_25 rfl (by decide) rfl rfl ?_
      refine Z_iload_n (n := 27) dX3_equal_26 rfl rfl ?_
      refine Z_aload_n (n := 28) dX3_equal_27 rfl rfl ?_
      refine Z_getA (n := 31) dX3_equal_28 rfl ffX3_11 (by first | rfl | exact nS0 (nA_at (by omega) (by omega))) (by first | rfl | exact nS0 (nA_at (by omega) (by omega))) ?_
      refine Z_iload_n (n := 32) dX3_equal_31 rfl rfl ?_
      refine Z_aald (n := 33) dX3_equal_32 rfl (by first | rfl | exact nS0 (nA_at (by omega) (by omega))) (by decide) (by omega) (by omega) (nA_P (by omega) (by omega)) ?_
      refine Z_callVi (n := 36) [] _ dX3_equal_33 rfl cwX3_181 rfl rfl (by first | rfl | exact nS0 (nA_at (by omega) (by omega))) (Nat.le_of_ble_eq_true rfl) (by refine ⟨?_, ?_, ?_, ?_⟩ <;> exact Nat.le_of_ble_eq_true rfl) (fun _ _ => trivial) (zX0_outputCount  (by exact nA_at (by omega) (by omega))) ?_
      intro x33 M33 J33 z33 f33 q33
      obtain ⟨e33_1, e33_2, h33⟩ := q33
      replace e33_1 := e33_1.symm; subst e33_1
      replace e33_2 := e33_2.symm; subst e33_2
      refine Z_icmp_eq (n := 39) (t := 42) dX3_equal_36 rfl (by decide) (fun c36 => ?_) (fun c36 => ?_)
      · refine Z_rg (nA net) 5 (nTo (nA_at (by omega) (by omega))) (fun g5 g5b => ?_)
        refine Z_iload_n (n := 43) dX3_equal_42 rfl rfl ?_
        refine Z_if_le (n := 46) (t := 50) dX3_equal_43 rfl (by decide) (fun c43 => ?_) (fun c43 => ?_)
        · have en5 : M 4 = M 4 := rfl
          have en6 : eqI M M 0 0 := eq_0 hb (fun _ _ => rfl) rfl
          refine Z_iconst (n := 51) dX3_equal_50 rfl (by decide) ?_
          refine Z_istore (L' := [_, _, _, _, _, _, _, _]) (n := 53) dX3_equal_51 rfl (by decide) rfl rfl ?_
          refine Z_iconst (n := 54) dX3_equal_53 rfl (by decide) ?_
          refine Z_istore (L' := [_, _, _, _, _, _, _, _]) (n := 56) dX3_equal_54 rfl (by decide) rfl rfl ?_
          have lp56 : ∀ (N56 : Nat) (ap o : Int) (M56 : zM) (J56 : zJ), ((x22 - o).toNat) < N56 → (J56 = J) → (-1 ≤ ap) → (ap ≤ 251) → (0 ≤ o) → (o ≤ x22) → (M56 4 = M 4) → (eqI M M56 ap o) → TZ G mX3_equal (tl_rm 14 0 0) 0 0 kFc M J 56 [some (vR 0), some (vI net), some (vI oth), some (vI x22), some (vI ap), some (vI o), none, none] [] F1 M56 J56 (ZM G (zPost G kFc F1 M J (qI (fun x M' J' => J' = J ∧ cI M' ∧ hkp M M'))) 0 0) := by
            intro N56
            induction N56 with
            | zero => intro ap o M56 J56 hN; omega
            | succ N56 ih56 =>
              intro ap o M56 J56 hN56 i56_0 i56_1 i56_2 i56_3 i56_4 i56_5 i56_6
              refine Z_iload (n := 58) dX3_equal_56 rfl rfl ?_
              refine Z_iload_n (n := 59) dX3_equal_58 rfl rfl ?_
              refine Z_icmp_ge (n := 62) (t := 132) dX3_equal_59 rfl (by decide) (fun c59 => ?_) (fun c59 => ?_)
              · refine Z_aload_n (n := 133) dX3_equal_132 rfl rfl ?_
                refine Z_callVv (n := 136) [] _ dX3_equal_133 rfl cwX3_188 rfl rfl (by first | rfl | exact nS0 (nA_at (by omega) (by omega))) (Nat.le_of_ble_eq_true rfl) (by refine ⟨?_, ?_, ?_, ?_⟩ <;> exact Nat.le_of_ble_eq_true rfl) (fun _ h => h) (zX3_endSteps  (by decide) (by decide)) ?_
                intro M133 J133 f133 q133
                obtain ⟨e133_1, e133_2⟩ := q133
                replace e133_1 := e133_1.symm; subst e133_1
                replace e133_2 := e133_2.symm; subst e133_2
                refine Z_iload (n := 138) dX3_equal_136 rfl rfl ?_
                refine Z_iconst (n := 139) dX3_equal_138 rfl (by decide) ?_
                refine Z_icmp_ne (n := 142) (t := 147) dX3_equal_139 rfl (by decide) (fun c139 => ?_) (fun c139 => ?_)
                · refine Z_iload (n := 149) dX3_equal_147 rfl rfl ?_
                  refine Z_if_ne (n := 152) (t := 156) dX3_equal_149 rfl (by decide) (fun c149 => ?_) (fun c149 => ?_)
                  · refine Z_iconst (n := 157) dX3_equal_156 rfl (by decide) ?_
                    refine Z_fr (fun frR => ?_)
                    refine Z_iret dX3_equal_157 rfl ?_
                    have hq := mid_end (M3 := fillz (uz M56 0 7 0) 13 40 (-1)) i56_6.1 (fun a h1 h2 => by rw [fillz_o h2, uz_o h1]) (fun g a b => fillz_a a (by omega)) (by rw [fillz_o (by decide), uz_s])
                    exact ⟨i56_0, cI_kp hc hq frR, hq⟩
                  · refine Z_iconst (n := 153) dX3_equal_152 rfl (by decide) ?_
                    refine Z_goto (t := 157) dX3_equal_153 (by decide) ?_
                    refine Z_fr (fun frR => ?_)
                    refine Z_iret dX3_equal_157 rfl ?_
                    have hq := mid_end (M3 := fillz (uz M56 0 7 0) 13 40 (-1)) i56_6.1 (fun a h1 h2 => by rw [fillz_o h2, uz_o h1]) (fun g a b => fillz_a a (by omega)) (by rw [fillz_o (by decide), uz_s])
                    exact ⟨i56_0, cI_kp hc hq frR, hq⟩
                · refine Z_bipush (n := 144) dX3_equal_142 rfl (by decide) (by decide) ?_
                  refine Z_goto (t := 157) dX3_equal_144 (by decide) ?_
                  refine Z_fr (fun frR => ?_)
                  refine Z_iret dX3_equal_157 rfl ?_
                  have hq := mid_end (M3 := fillz (uz M56 0 7 0) 13 40 (-1)) i56_6.1 (fun a h1 h2 => by rw [fillz_o h2, uz_o h1]) (fun g a b => fillz_a a (by omega)) (by rw [fillz_o (by decide), uz_s])
                  exact ⟨i56_0, cI_kp hc hq frR, hq⟩
              · refine Z_iload (n := 64) dX3_equal_62 rfl rfl ?_
                refine Z_if_ne (n := 67) (t := 132) dX3_equal_64 rfl (by decide) (fun c64 => ?_) (fun c64 => ?_)
                · refine Z_aload_n (n := 133) dX3_equal_132 rfl rfl ?_
                  refine Z_callVv (n := 136) [] _ dX3_equal_133 rfl cwX3_188 rfl rfl (by first | rfl | exact nS0 (nA_at (by omega) (by omega))) (Nat.le_of_ble_eq_true rfl) (by refine ⟨?_, ?_, ?_, ?_⟩ <;> exact Nat.le_of_ble_eq_true rfl) (fun _ h => h) (zX3_endSteps  (by decide) (by decide)) ?_
                  intro M133 J133 f133 q133
                  obtain ⟨e133_1, e133_2⟩ := q133
                  replace e133_1 := e133_1.symm; subst e133_1
                  replace e133_2 := e133_2.symm; subst e133_2
                  refine Z_iload (n := 138) dX3_equal_136 rfl rfl ?_
                  refine Z_iconst (n := 139) dX3_equal_138 rfl (by decide) ?_
                  refine Z_icmp_ne (n := 142) (t := 147) dX3_equal_139 rfl (by decide) (fun c139 => ?_) (fun c139 => ?_)
                  · refine Z_iload (n := 149) dX3_equal_147 rfl rfl ?_
                    refine Z_if_ne (n := 152) (t := 156) dX3_equal_149 rfl (by decide) (fun c149 => ?_) (fun c149 => ?_)
                    · refine Z_iconst (n := 157) dX3_equal_156 rfl (by decide) ?_
                      refine Z_fr (fun frR => ?_)
                      refine Z_iret dX3_equal_157 rfl ?_
                      have hq := mid_end (M3 := fillz (uz M56 0 7 0) 13 40 (-1)) i56_6.1 (fun a h1 h2 => by rw [fillz_o h2, uz_o h1]) (fun g a b => fillz_a a (by omega)) (by rw [fillz_o (by decide), uz_s])
                      exact ⟨i56_0, cI_kp hc hq frR, hq⟩
                    · refine Z_iconst (n := 153) dX3_equal_152 rfl (by decide) ?_
                      refine Z_goto (t := 157) dX3_equal_153 (by decide) ?_
                      refine Z_fr (fun frR => ?_)
                      refine Z_iret dX3_equal_157 rfl ?_
                      have hq := mid_end (M3 := fillz (uz M56 0 7 0) 13 40 (-1)) i56_6.1 (fun a h1 h2 => by rw [fillz_o h2, uz_o h1]) (fun g a b => fillz_a a (by omega)) (by rw [fillz_o (by decide), uz_s])
                      exact ⟨i56_0, cI_kp hc hq frR, hq⟩
                  · refine Z_bipush (n := 144) dX3_equal_142 rfl (by decide) (by decide) ?_
                    refine Z_goto (t := 157) dX3_equal_144 (by decide) ?_
                    refine Z_fr (fun frR => ?_)
                    refine Z_iret dX3_equal_157 rfl ?_
                    have hq := mid_end (M3 := fillz (uz M56 0 7 0) 13 40 (-1)) i56_6.1 (fun a h1 h2 => by rw [fillz_o h2, uz_o h1]) (fun g a b => fillz_a a (by omega)) (by rw [fillz_o (by decide), uz_s])
                    exact ⟨i56_0, cI_kp hc hq frR, hq⟩
                · refine Z_fr (fun fr56 => ?_)
                  refine Z_rg 0 7 rfl (fun g07 g07b => ?_)
                  have hN1 : netOK M56 (nA net) := netOK_fr (cI_net hc (nA_at (by omega) (by omega))) (fr56 (nA net) (by unfold kFc nA; omega)).1 (fr56 (nA net + 1) (by unfold kFc nA; omega)).1 (fr56 (nA net + 2) (by unfold kFc nA; omega)).1 (fr56 (nA net + 3) (by unfold kFc nA; omega)).1
                  have hb1 : M56 (nA net) 5 = M (nA net) 5 := congrFun (fr56 (nA net) (by unfold kFc nA; omega)).1 5
                  have hO56 : ordOK M56 := ordOK_fr hc.2.1 i56_5
                  obtain ⟨⟨E56, md56⟩, g56z⟩ := i56_6
                  have g56 := g56z (by omega)
                  have g567 := g56.2
                  clear g56z
                  refine Z_aload_n (n := 68) dX3_equal_67 rfl rfl ?_
                  refine Z_aload_n (n := 69) dX3_equal_68 rfl rfl ?_
                  refine Z_getA (n := 72) dX3_equal_69 rfl ffX3_11 (by first | rfl | exact nS0 (nA_at (by omega) (by omega))) (by first | rfl | exact nS0 (nA_at (by omega) (by omega))) ?_
                  refine Z_iload_n (n := 73) dX3_equal_72 rfl rfl ?_
                  refine Z_aald (n := 74) dX3_equal_73 rfl (by first | rfl | exact nS0 (nA_at (by omega) (by omega))) (by decide) (by omega) (by omega) (nA_P (by omega) (by omega)) ?_
                  refine Z_iload (n := 76) dX3_equal_74 rfl rfl ?_
                  refine Z_callVi (n := 79) [_, _] _ dX3_equal_76 rfl cwX3_129 rfl rfl (by first | rfl | exact nS0 (nA_at (by omega) (by omega))) (Nat.le_of_ble_eq_true rfl) (by refine ⟨?_, ?_, ?_, ?_⟩ <;> exact Nat.le_of_ble_eq_true rfl) (fun a h => by unfold kFc at h; unfold kStep; omega) (zX3_building_f  (by exact nA_at (by omega) (by omega)) (by exact hN1) (by omega) (by omega) (by exact hO56) (by exact hb) (by exact md56) (by exact g56.1) (by omega)) ?_
                  intro x76 M76 J76 z76 f76 q76
                  obtain ⟨e76_1, xb76, k776, bx76⟩ := q76
                  replace e76_1 := e76_1.symm; subst e76_1
                  refine Z_istore (L' := [_, _, _, _, _, _, _, _]) (n := 81) dX3_equal_79 rfl (by decide) rfl rfl ?_
                  have ct103 : ∀ (q : Int) (M103 : zM) (J103 : zJ), (J103 = J) → (-1 ≤ q ∧ q ≤ 251) → (eqC M M103 x76 q o) → (M103 4 = M 4) → TZ G mX3_equal (tl_rm 14 0 0) 0 0 kFc M J 103 [some (vR 0), some (vI net), some (vI oth), some (vI x22), some (vI ap), some (vI o), some (vI x76), none] [vI q] F1 M103 J103 (ZM G (zPost G kFc F1 M J (qI (fun x M' J' => J' = J ∧ cI M' ∧ hkp M M'))) 0 0) := by
                    intro q M103 J103 i103_0 i103_1 i103_2 i103_3
                    refine Z_istore (L' := [_, _, _, _, _, _, _, _]) (n := 105) dX3_equal_103 rfl (by decide) rfl rfl ?_
                    have hpq := eq_C i103_2
                    obtain ⟨E3, md103⟩ := i103_2.1
                    have nb1 := mid_no md103
                    obtain ⟨S1, hS1, hR1⟩ := md103.1
                    refine Z_aload_n (n := 106) dX3_equal_105 rfl rfl ?_
                    refine Z_bipush (n := 108) dX3_equal_106 rfl (by decide) (by decide) ?_
                    refine Z_iload (n := 110) dX3_equal_108 rfl rfl ?_
                    refine Z_iload (n := 112) dX3_equal_110 rfl rfl ?_
                    refine Z_iconst (n := 113) dX3_equal_112 rfl (by decide) ?_
                    refine Z_callVi (n := 116) [_, _, _, _] _ dX3_equal_113 rfl cwX3_142 rfl rfl (by first | rfl | exact nS0 (nA_at (by omega) (by omega))) (Nat.le_of_ble_eq_true rfl) (by refine ⟨?_, ?_, ?_, ?_⟩ <;> exact Nat.le_of_ble_eq_true rfl) (fun a h => by unfold kFc at h; unfold kSt1; omega) (zX3_kindStep_f  (by omega) (by omega) (by exact hpq.1) (by exact hpq.2) (by exact Or.inr (Or.inl rfl)) (by exact hS1) (by exact hR1) (by exact nb1)) ?_
                    intro x113 M113 J113 z113 f113 q113
                    obtain ⟨e113_1, sq113⟩ := q113
                    replace e113_1 := e113_1.symm; subst e113_1
                    obtain ⟨nq, nbd⟩ := eq_step i103_2 sq113 (f113 12 (by decide)).1 (f113 13 (by decide)).1 (f113 15 (by decide)).1
                    refine Z_istore (L' := [_, _, _, _, _, _, _, _]) (n := 118) dX3_equal_116 rfl (by decide) rfl rfl ?_
                    refine Z_aload_n (n := 119) dX3_equal_118 rfl rfl ?_
                    refine Z_iload (n := 121) dX3_equal_119 rfl rfl ?_
                    refine Z_iload (n := 123) dX3_equal_121 rfl rfl ?_
                    refine Z_callVv (n := 126) [_, _] _ dX3_equal_123 rfl cwX3_184 rfl rfl (by first | rfl | exact nS0 (nA_at (by omega) (by omega))) (Nat.le_of_ble_eq_true rfl) (by refine ⟨?_, ?_, ?_, ?_⟩ <;> exact Nat.le_of_ble_eq_true rfl) (fun a h => by unfold kFc at h; unfold k0; omega) (zX3_notePart_f  (by omega) (by omega)) ?_
                    intro M123 J123 f123 q123
                    obtain ⟨e123_1, np123⟩ := q123
                    replace e123_1 := e123_1.symm; subst e123_1
                    have nx6 : eqI M M123 x113 (o + 1) := eq_cg nq (fun a ha => (f123 a ha).1) np123
                    have nx5 : M123 4 = M 4 := ((f123 4 (by decide)).1).trans (((f113 4 (by decide)).1).trans i103_3)
                    refine Z_iinc (L' := [_, _, _, _, _, _, _, _]) (n := 129) dX3_equal_126 rfl rfl (by decide) rfl rfl (by omega) rfl ?_
                    refine Z_goto (t := 56) dX3_equal_129 (by decide) ?_
                    refine Z_loc (L' := [some _, some _, some _, some _, some _, some _, none, none]) (lsub_same (lsub_same (lsub_same (lsub_same (lsub_same (lsub_same (lsub_none (lsub_none lsub_nil)))))))) ?_
                    exact ih56 _ _ _ _ (by omega) (by assumption) (by first | assumption | omega | decide) (by first | assumption | omega | decide) (by first | assumption | omega | decide) (by first | assumption | omega | decide) (by exact nx5) (by exact nx6)
                  have hX := bdX_md bx76
                  clear bx76
                  refine Z_iload (n := 83) dX3_equal_81 rfl rfl ?_
                  refine Z_iconst (n := 84) dX3_equal_83 rfl (by decide) ?_
                  refine Z_icmp_ne (n := 87) (t := 91) dX3_equal_84 rfl (by decide) (fun c84 => ?_) (fun c84 => ?_)
                  · refine Z_fr (fun fr76 => ?_)
                    have hN2 : netOK M76 (nA oth) := netOK_fr (cI_net hc (nA_at (by omega) (by omega))) (fr76 (nA oth) (by unfold kFc nA; omega)).1 (fr76 (nA oth + 1) (by unfold kFc nA; omega)).1 (fr76 (nA oth + 2) (by unfold kFc nA; omega)).1 (fr76 (nA oth + 3) (by unfold kFc nA; omega)).1
                    have hb2 : M76 (nA oth) 5 = M (nA oth) 5 := congrFun (fr76 (nA oth) (by unfold kFc nA; omega)).1 5
                    have hO76 : ordOK M76 := ordOK_fr hO56 (f76 4 (by decide)).1
                    obtain ⟨E76, md76⟩ := hX.1
                    have g76 := hX.2 (by omega)
                    have k76 := k776.1
                    refine Z_aload_n (n := 92) dX3_equal_91 rfl rfl ?_
                    refine Z_aload_n (n := 93) dX3_equal_92 rfl rfl ?_
                    refine Z_getA (n := 96) dX3_equal_93 rfl ffX3_11 (by first | rfl | exact nS0 (nA_at (by omega) (by omega))) (by first | rfl | exact nS0 (nA_at (by omega) (by omega))) ?_
                    refine Z_iload_n (n := 97) dX3_equal_96 rfl rfl ?_
                    refine Z_aald (n := 98) dX3_equal_97 rfl (by first | rfl | exact nS0 (nA_at (by omega) (by omega))) (by decide) (by omega) (by omega) (nA_P (by omega) (by omega)) ?_
                    refine Z_iload (n := 100) dX3_equal_98 rfl rfl ?_
                    refine Z_callVi (n := 103) [_, _] _ dX3_equal_100 rfl cwX3_129 rfl rfl (by first | rfl | exact nS0 (nA_at (by omega) (by omega))) (Nat.le_of_ble_eq_true rfl) (by refine ⟨?_, ?_, ?_, ?_⟩ <;> exact Nat.le_of_ble_eq_true rfl) (fun a h => by unfold kFc at h; unfold kStep; omega) (zX3_building_f  (by exact nA_at (by omega) (by omega)) (by exact hN2) (by omega) (by omega) (by exact hO76) (by exact hb) (by exact md76) (by exact g76.2) (by omega)) ?_
                    intro x100 M100 J100 z100 f100 q100
                    obtain ⟨e100_1, xb100, k7100, bx100⟩ := q100
                    replace e100_1 := e100_1.symm; subst e100_1
                    have hY := bdX_md bx100
                    clear bx100
                    have nq2 : eqC M M100 x76 x100 o := eq_two k776 k7100 (by omega) (by omega) g567 hY.1 hY.2
                    have nq3 : M100 4 = M 4 := ((f100 4 (by decide)).1).trans (((f76 4 (by decide)).1).trans i56_5)
                    refine Z_loc (L' := [some _, some _, some _, some _, some _, some _, some _, none]) (lsub_same (lsub_same (lsub_same (lsub_same (lsub_same (lsub_same (lsub_same (lsub_none lsub_nil)))))))) ?_
                    exact ct103 _ _ _ (by first | rfl | assumption) (by omega) (by exact nq2) (by exact nq3)
                  · have nq2 : eqC M M76 x76 (-1) o := ⟨hX.1, Or.inl ⟨by omega, rfl⟩⟩
                    have nq3 : M76 4 = M 4 := ((f76 4 (by decide)).1).trans i56_5
                    refine Z_iconst (n := 88) dX3_equal_87 rfl (by decide) ?_
                    refine Z_goto (t := 103) dX3_equal_88 (by decide) ?_
                    refine Z_loc (L' := [some _, some _, some _, some _, some _, some _, some _, none]) (lsub_same (lsub_same (lsub_same (lsub_same (lsub_same (lsub_same (lsub_same (lsub_none lsub_nil)))))))) ?_
                    exact ct103 _ _ _ (by first | rfl | assumption) (by omega) (by exact nq2) (by exact nq3)
          refine Z_loc (L' := [some _, some _, some _, some _, some _, some _, none, none]) (lsub_same (lsub_same (lsub_same (lsub_same (lsub_same (lsub_same (lsub_none (lsub_none lsub_nil)))))))) ?_
          exact lp56 _ _ _ _ _ (Nat.lt_succ_self _) (by rfl) (by first | assumption | omega | decide) (by first | assumption | omega | decide) (by first | assumption | omega | decide) (by first | assumption | omega | decide) (by exact en5) (by exact en6)
        · refine Z_aload_n (n := 47) dX3_equal_46 rfl rfl ?_
          refine Z_callVv (n := 50) [] _ dX3_equal_47 rfl cwX3_126 rfl rfl (by first | rfl | exact nS0 (nA_at (by omega) (by omega))) (Nat.le_of_ble_eq_true rfl) (by refine ⟨?_, ?_, ?_, ?_⟩ <;> exact Nat.le_of_ble_eq_true rfl) (fun _ h => h) (zX3_beginSteps  (by decide)) ?_
          intro M47 J47 f47 q47
          obtain ⟨e47_1, e47_2⟩ := q47
          replace e47_1 := e47_1.symm; subst e47_1
          replace e47_2 := e47_2.symm; subst e47_2
          have en5 : uz M 0 8 0 4 = M 4 := uz_o (by decide)
          have en6 : eqI M (uz M 0 8 0) 0 0 := eq_0 hb (fun a ha => uz_o ha) (uz_n (by decide))
          refine Z_iconst (n := 51) dX3_equal_50 rfl (by decide) ?_
          refine Z_istore (L' := [_, _, _, _, _, _, _, _]) (n := 53) dX3_equal_51 rfl (by decide) rfl rfl ?_
          refine Z_iconst (n := 54) dX3_equal_53 rfl (by decide) ?_
          refine Z_istore (L' := [_, _, _, _, _, _, _, _]) (n := 56) dX3_equal_54 rfl (by decide) rfl rfl ?_
          have lp56 : ∀ (N56 : Nat) (ap o : Int) (M56 : zM) (J56 : zJ), ((x22 - o).toNat) < N56 → (J56 = J) → (-1 ≤ ap) → (ap ≤ 251) → (0 ≤ o) → (o ≤ x22) → (M56 4 = M 4) → (eqI M M56 ap o) → TZ G mX3_equal (tl_rm 14 0 0) 0 0 kFc M J 56 [some (vR 0), some (vI net), some (vI oth), some (vI x22), some (vI ap), some (vI o), none, none] [] F1 M56 J56 (ZM G (zPost G kFc F1 M J (qI (fun x M' J' => J' = J ∧ cI M' ∧ hkp M M'))) 0 0) := by
            intro N56
            induction N56 with
            | zero => intro ap o M56 J56 hN; omega
            | succ N56 ih56 =>
              intro ap o M56 J56 hN56 i56_0 i56_1 i56_2 i56_3 i56_4 i56_5 i56_6
              refine Z_iload (n := 58) dX3_equal_56 rfl rfl ?_
              refine Z_iload_n (n := 59) dX3_equal_58 rfl rfl ?_
              refine Z_icmp_ge (n := 62) (t := 132) dX3_equal_59 rfl (by decide) (fun c59 => ?_) (fun c59 => ?_)
              · refine Z_aload_n (n := 133) dX3_equal_132 rfl rfl ?_
                refine Z_callVv (n := 136) [] _ dX3_equal_133 rfl cwX3_188 rfl rfl (by first | rfl | exact nS0 (nA_at (by omega) (by omega))) (Nat.le_of_ble_eq_true rfl) (by refine ⟨?_, ?_, ?_, ?_⟩ <;> exact Nat.le_of_ble_eq_true rfl) (fun _ h => h) (zX3_endSteps  (by decide) (by decide)) ?_
                intro M133 J133 f133 q133
                obtain ⟨e133_1, e133_2⟩ := q133
                replace e133_1 := e133_1.symm; subst e133_1
                replace e133_2 := e133_2.symm; subst e133_2
                refine Z_iload (n := 138) dX3_equal_136 rfl rfl ?_
                refine Z_iconst (n := 139) dX3_equal_138 rfl (by decide) ?_
                refine Z_icmp_ne (n := 142) (t := 147) dX3_equal_139 rfl (by decide) (fun c139 => ?_) (fun c139 => ?_)
                · refine Z_iload (n := 149) dX3_equal_147 rfl rfl ?_
                  refine Z_if_ne (n := 152) (t := 156) dX3_equal_149 rfl (by decide) (fun c149 => ?_) (fun c149 => ?_)
                  · refine Z_iconst (n := 157) dX3_equal_156 rfl (by decide) ?_
                    refine Z_fr (fun frR => ?_)
                    refine Z_iret dX3_equal_157 rfl ?_
                    have hq := mid_end (M3 := fillz (uz M56 0 7 0) 13 40 (-1)) i56_6.1 (fun a h1 h2 => by rw [fillz_o h2, uz_o h1]) (fun g a b => fillz_a a (by omega)) (by rw [fillz_o (by decide), uz_s])
                    exact ⟨i56_0, cI_kp hc hq frR, hq⟩
                  · refine Z_iconst (n := 153) dX3_equal_152 rfl (by decide) ?_
                    refine Z_goto (t := 157) dX3_equal_153 (by decide) ?_
                    refine Z_fr (fun frR => ?_)
                    refine Z_iret dX3_equal_157 rfl ?_
                    have hq := mid_end (M3 := fillz (uz M56 0 7 0) 13 40 (-1)) i56_6.1 (fun a h1 h2 => by rw [fillz_o h2, uz_o h1]) (fun g a b => fillz_a a (by omega)) (by rw [fillz_o (by decide), uz_s])
                    exact ⟨i56_0, cI_kp hc hq frR, hq⟩
                · refine Z_bipush (n := 144) dX3_equal_142 rfl (by decide) (by decide) ?_
                  refine Z_goto (t := 157) dX3_equal_144 (by decide) ?_
                  refine Z_fr (fun frR => ?_)
                  refine Z_iret dX3_equal_157 rfl ?_
                  have hq := mid_end (M3 := fillz (uz M56 0 7 0) 13 40 (-1)) i56_6.1 (fun a h1 h2 => by rw [fillz_o h2, uz_o h1]) (fun g a b => fillz_a a (by omega)) (by rw [fillz_o (by decide), uz_s])
                  exact ⟨i56_0, cI_kp hc hq frR, hq⟩
              · refine Z_iload (n := 64) dX3_equal_62 rfl rfl ?_
                refine Z_if_ne (n := 67) (t := 132) dX3_equal_64 rfl (by decide) (fun c64 => ?_) (fun c64 => ?_)
                · refine Z_aload_n (n := 133) dX3_equal_132 rfl rfl ?_
                  refine Z_callVv (n := 136) [] _ dX3_equal_133 rfl cwX3_188 rfl rfl (by first | rfl | exact nS0 (nA_at (by omega) (by omega))) (Nat.le_of_ble_eq_true rfl) (by refine ⟨?_, ?_, ?_, ?_⟩ <;> exact Nat.le_of_ble_eq_true rfl) (fun _ h => h) (zX3_endSteps  (by decide) (by decide)) ?_
                  intro M133 J133 f133 q133
                  obtain ⟨e133_1, e133_2⟩ := q133
                  replace e133_1 := e133_1.symm; subst e133_1
                  replace e133_2 := e133_2.symm; subst e133_2
                  refine Z_iload (n := 138) dX3_equal_136 rfl rfl ?_
                  refine Z_iconst (n := 139) dX3_equal_138 rfl (by decide) ?_
                  refine Z_icmp_ne (n := 142) (t := 147) dX3_equal_139 rfl (by decide) (fun c139 => ?_) (fun c139 => ?_)
                  · refine Z_iload (n := 149) dX3_equal_147 rfl rfl ?_
                    refine Z_if_ne (n := 152) (t := 156) dX3_equal_149 rfl (by decide) (fun c149 => ?_) (fun c149 => ?_)
                    · refine Z_iconst (n := 157) dX3_equal_156 rfl (by decide) ?_
                      refine Z_fr (fun frR => ?_)
                      refine Z_iret dX3_equal_157 rfl ?_
                      have hq := mid_end (M3 := fillz (uz M56 0 7 0) 13 40 (-1)) i56_6.1 (fun a h1 h2 => by rw [fillz_o h2, uz_o h1]) (fun g a b => fillz_a a (by omega)) (by rw [fillz_o (by decide), uz_s])
                      exact ⟨i56_0, cI_kp hc hq frR, hq⟩
                    · refine Z_iconst (n := 153) dX3_equal_152 rfl (by decide) ?_
                      refine Z_goto (t := 157) dX3_equal_153 (by decide) ?_
                      refine Z_fr (fun frR => ?_)
                      refine Z_iret dX3_equal_157 rfl ?_
                      have hq := mid_end (M3 := fillz (uz M56 0 7 0) 13 40 (-1)) i56_6.1 (fun a h1 h2 => by rw [fillz_o h2, uz_o h1]) (fun g a b => fillz_a a (by omega)) (by rw [fillz_o (by decide), uz_s])
                      exact ⟨i56_0, cI_kp hc hq frR, hq⟩
                  · refine Z_bipush (n := 144) dX3_equal_142 rfl (by decide) (by decide) ?_
                    refine Z_goto (t := 157) dX3_equal_144 (by decide) ?_
                    refine Z_fr (fun frR => ?_)
                    refine Z_iret dX3_equal_157 rfl ?_
                    have hq := mid_end (M3 := fillz (uz M56 0 7 0) 13 40 (-1)) i56_6.1 (fun a h1 h2 => by rw [fillz_o h2, uz_o h1]) (fun g a b => fillz_a a (by omega)) (by rw [fillz_o (by decide), uz_s])
                    exact ⟨i56_0, cI_kp hc hq frR, hq⟩
                · refine Z_fr (fun fr56 => ?_)
                  refine Z_rg 0 7 rfl (fun g07 g07b => ?_)
                  have hN1 : netOK M56 (nA net) := netOK_fr (cI_net hc (nA_at (by omega) (by omega))) (fr56 (nA net) (by unfold kFc nA; omega)).1 (fr56 (nA net + 1) (by unfold kFc nA; omega)).1 (fr56 (nA net + 2) (by unfold kFc nA; omega)).1 (fr56 (nA net + 3) (by unfold kFc nA; omega)).1
                  have hb1 : M56 (nA net) 5 = M (nA net) 5 := congrFun (fr56 (nA net) (by unfold kFc nA; omega)).1 5
                  have hO56 : ordOK M56 := ordOK_fr hc.2.1 i56_5
                  obtain ⟨⟨E56, md56⟩, g56z⟩ := i56_6
                  have g56 := g56z (by omega)
                  have g567 := g56.2
                  clear g56z
                  refine Z_aload_n (n := 68) dX3_equal_67 rfl rfl ?_
                  refine Z_aload_n (n := 69) dX3_equal_68 rfl rfl ?_
                  refine Z_getA (n := 72) dX3_equal_69 rfl ffX3_11 (by first | rfl | exact nS0 (nA_at (by omega) (by omega))) (by first | rfl | exact nS0 (nA_at (by omega) (by omega))) ?_
                  refine Z_iload_n (n := 73) dX3_equal_72 rfl rfl ?_
                  refine Z_aald (n := 74) dX3_equal_73 rfl (by first | rfl | exact nS0 (nA_at (by omega) (by omega))) (by decide) (by omega) (by omega) (nA_P (by omega) (by omega)) ?_
                  refine Z_iload (n := 76) dX3_equal_74 rfl rfl ?_
                  refine Z_callVi (n := 79) [_, _] _ dX3_equal_76 rfl cwX3_129 rfl rfl (by first | rfl | exact nS0 (nA_at (by omega) (by omega))) (Nat.le_of_ble_eq_true rfl) (by refine ⟨?_, ?_, ?_, ?_⟩ <;> exact Nat.le_of_ble_eq_true rfl) (fun a h => by unfold kFc at h; unfold kStep; omega) (zX3_building_f  (by exact nA_at (by omega) (by omega)) (by exact hN1) (by omega) (by omega) (by exact hO56) (by exact hb) (by exact md56) (by exact g56.1) (by omega)) ?_
                  intro x76 M76 J76 z76 f76 q76
                  obtain ⟨e76_1, xb76, k776, bx76⟩ := q76
                  replace e76_1 := e76_1.symm; subst e76_1
                  refine Z_istore (L' := [_, _, _, _, _, _, _, _]) (n := 81) dX3_equal_79 rfl (by decide) rfl rfl ?_
                  have ct103 : ∀ (q : Int) (M103 : zM) (J103 : zJ), (J103 = J) → (-1 ≤ q ∧ q ≤ 251) → (eqC M M103 x76 q o) → (M103 4 = M 4) → TZ G mX3_equal (tl_rm 14 0 0) 0 0 kFc M J 103 [some (vR 0), some (vI net), some (vI oth), some (vI x22), some (vI ap), some (vI o), some (vI x76), none] [vI q] F1 M103 J103 (ZM G (zPost G kFc F1 M J (qI (fun x M' J' => J' = J ∧ cI M' ∧ hkp M M'))) 0 0) := by
                    intro q M103 J103 i103_0 i103_1 i103_2 i103_3
                    refine Z_istore (L' := [_, _, _, _, _, _, _, _]) (n := 105) dX3_equal_103 rfl (by decide) rfl rfl ?_
                    have hpq := eq_C i103_2
                    obtain ⟨E3, md103⟩ := i103_2.1
                    have nb1 := mid_no md103
                    obtain ⟨S1, hS1, hR1⟩ := md103.1
                    refine Z_aload_n (n := 106) dX3_equal_105 rfl rfl ?_
                    refine Z_bipush (n := 108) dX3_equal_106 rfl (by decide) (by decide) ?_
                    refine Z_iload (n := 110) dX3_equal_108 rfl rfl ?_
                    refine Z_iload (n := 112) dX3_equal_110 rfl rfl ?_
                    refine Z_iconst (n := 113) dX3_equal_112 rfl (by decide) ?_
                    refine Z_callVi (n := 116) [_, _, _, _] _ dX3_equal_113 rfl cwX3_142 rfl rfl (by first | rfl | exact nS0 (nA_at (by omega) (by omega))) (Nat.le_of_ble_eq_true rfl) (by refine ⟨?_, ?_, ?_, ?_⟩ <;> exact Nat.le_of_ble_eq_true rfl) (fun a h => by unfold kFc at h; unfold kSt1; omega) (zX3_kindStep_f  (by omega) (by omega) (by exact hpq.1) (by exact hpq.2) (by exact Or.inr (Or.inl rfl)) (by exact hS1) (by exact hR1) (by exact nb1)) ?_
                    intro x113 M113 J113 z113 f113 q113
                    obtain ⟨e113_1, sq113⟩ := q113
                    replace e113_1 := e113_1.symm; subst e113_1
                    obtain ⟨nq, nbd⟩ := eq_step i103_2 sq113 (f113 12 (by decide)).1 (f113 13 (by decide)).1 (f113 15 (by decide)).1
                    refine Z_istore (L' := [_, _, _, _, _, _, _, _]) (n := 118) dX3_equal_116 rfl (by decide) rfl rfl ?_
                    refine Z_aload_n (n := 119) dX3_equal_118 rfl rfl ?_
                    refine Z_iload (n := 121) dX3_equal_119 rfl rfl ?_
                    refine Z_iload (n := 123) dX3_equal_121 rfl rfl ?_
                    refine Z_callVv (n := 126) [_, _] _ dX3_equal_123 rfl cwX3_184 rfl rfl (by first | rfl | exact nS0 (nA_at (by omega) (by omega))) (Nat.le_of_ble_eq_true rfl) (by refine ⟨?_, ?_, ?_, ?_⟩ <;> exact Nat.le_of_ble_eq_true rfl) (fun a h => by unfold kFc at h; unfold k0; omega) (zX3_notePart_f  (by omega) (by omega)) ?_
                    intro M123 J123 f123 q123
                    obtain ⟨e123_1, np123⟩ := q123
                    replace e123_1 := e123_1.symm; subst e123_1
                    have nx6 : eqI M M123 x113 (o + 1) := eq_cg nq (fun a ha => (f123 a ha).1) np123
                    have nx5 : M123 4 = M 4 := ((f123 4 (by decide)).1).trans (((f113 4 (by decide)).1).trans i103_3)
                    refine Z_iinc (L' := [_, _, _, _, _, _, _, _]) (n := 129) dX3_equal_126 rfl rfl (by decide) rfl rfl (by omega) rfl ?_
                    refine Z_goto (t := 56) dX3_equal_129 (by decide) ?_
                    refine Z_loc (L' := [some _, some _, some _, some _, some _, some _, none, none]) (lsub_same (lsub_same (lsub_same (lsub_same (lsub_same (lsub_same (lsub_none (lsub_none lsub_nil)))))))) ?_
                    exact ih56 _ _ _ _ (by omega) (by assumption) (by first | assumption | omega | decide) (by first | assumption | omega | decide) (by first | assumption | omega | decide) (by first | assumption | omega | decide) (by exact nx5) (by exact nx6)
                  have hX := bdX_md bx76
                  clear bx76
                  refine Z_iload (n := 83) dX3_equal_81 rfl rfl ?_
                  refine Z_iconst (n := 84) dX3_equal_83 rfl (by decide) ?_
                  refine Z_icmp_ne (n := 87) (t := 91) dX3_equal_84 rfl (by decide) (fun c84 => ?_) (fun c84 => ?_)
                  · refine Z_fr (fun fr76 => ?_)
                    have hN2 : netOK M76 (nA oth) := netOK_fr (cI_net hc (nA_at (by omega) (by omega))) (fr76 (nA oth) (by unfold kFc nA; omega)).1 (fr76 (nA oth + 1) (by unfold kFc nA; omega)).1 (fr76 (nA oth + 2) (by unfold kFc nA; omega)).1 (fr76 (nA oth + 3) (by unfold kFc nA; omega)).1
                    have hb2 : M76 (nA oth) 5 = M (nA oth) 5 := congrFun (fr76 (nA oth) (by unfold kFc nA; omega)).1 5
                    have hO76 : ordOK M76 := ordOK_fr hO56 (f76 4 (by decide)).1
                    obtain ⟨E76, md76⟩ := hX.1
                    have g76 := hX.2 (by omega)
                    have k76 := k776.1
                    refine Z_aload_n (n := 92) dX3_equal_91 rfl rfl ?_
                    refine Z_aload_n (n := 93) dX3_equal_92 rfl rfl ?_
                    refine Z_getA (n := 96) dX3_equal_93 rfl ffX3_11 (by first | rfl | exact nS0 (nA_at (by omega) (by omega))) (by first | rfl | exact nS0 (nA_at (by omega) (by omega))) ?_
                    refine Z_iload_n (n := 97) dX3_equal_96 rfl rfl ?_
                    refine Z_aald (n := 98) dX3_equal_97 rfl (by first | rfl | exact nS0 (nA_at (by omega) (by omega))) (by decide) (by omega) (by omega) (nA_P (by omega) (by omega)) ?_
                    refine Z_iload (n := 100) dX3_equal_98 rfl rfl ?_
                    refine Z_callVi (n := 103) [_, _] _ dX3_equal_100 rfl cwX3_129 rfl rfl (by first | rfl | exact nS0 (nA_at (by omega) (by omega))) (Nat.le_of_ble_eq_true rfl) (by refine ⟨?_, ?_, ?_, ?_⟩ <;> exact Nat.le_of_ble_eq_true rfl) (fun a h => by unfold kFc at h; unfold kStep; omega) (zX3_building_f  (by exact nA_at (by omega) (by omega)) (by exact hN2) (by omega) (by omega) (by exact hO76) (by exact hb) (by exact md76) (by exact g76.2) (by omega)) ?_
                    intro x100 M100 J100 z100 f100 q100
                    obtain ⟨e100_1, xb100, k7100, bx100⟩ := q100
                    replace e100_1 := e100_1.symm; subst e100_1
                    have hY := bdX_md bx100
                    clear bx100
                    have nq2 : eqC M M100 x76 x100 o := eq_two k776 k7100 (by omega) (by omega) g567 hY.1 hY.2
                    have nq3 : M100 4 = M 4 := ((f100 4 (by decide)).1).trans (((f76 4 (by decide)).1).trans i56_5)
                    refine Z_loc (L' := [some _, some _, some _, some _, some _, some _, some _, none]) (lsub_same (lsub_same (lsub_same (lsub_same (lsub_same (lsub_same (lsub_same (lsub_none lsub_nil)))))))) ?_
                    exact ct103 _ _ _ (by first | rfl | assumption) (by omega) (by exact nq2) (by exact nq3)
                  · have nq2 : eqC M M76 x76 (-1) o := ⟨hX.1, Or.inl ⟨by omega, rfl⟩⟩
                    have nq3 : M76 4 = M 4 := ((f76 4 (by decide)).1).trans i56_5
                    refine Z_iconst (n := 88) dX3_equal_87 rfl (by decide) ?_
                    refine Z_goto (t := 103) dX3_equal_88 (by decide) ?_
                    refine Z_loc (L' := [some _, some _, some _, some _, some _, some _, some _, none]) (lsub_same (lsub_same (lsub_same (lsub_same (lsub_same (lsub_same (lsub_same (lsub_none lsub_nil)))))))) ?_
                    exact ct103 _ _ _ (by first | rfl | assumption) (by omega) (by exact nq2) (by exact nq3)
          refine Z_loc (L' := [some _, some _, some _, some _, some _, some _, none, none]) (lsub_same (lsub_same (lsub_same (lsub_same (lsub_same (lsub_same (lsub_none (lsub_none lsub_nil)))))))) ?_
          exact lp56 _ _ _ _ _ (Nat.lt_succ_self _) (by rfl) (by first | assumption | omega | decide) (by first | assumption | omega | decide) (by first | assumption | omega | decide) (by first | assumption | omega | decide) (by exact en5) (by exact en6)
      · refine Z_bipush (n := 41) dX3_equal_39 rfl (by decide) (by decide) ?_
        refine Z_iret dX3_equal_41 rfl ?_
        exact ⟨rfl, hc, hkp_0 hb⟩
    · refine Z_iconst (n := 15) dX3_equal_14 rfl (by decide) ?_
      refine Z_iret dX3_equal_15 rfl ?_
      exact ⟨rfl, hc, hkp_0 hb⟩
