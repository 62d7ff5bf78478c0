/-! ===== the class: its face, second half ===== -/
set_option maxRecDepth 20000 in
theorem zX3_value {G : tl_G} {M : zM} {J : zJ} {f a : Int}  : ZN G yX3_value mX3_value 2 kAll [vR 0, vI f, vI a] F1 M J (qI (fun x M' J' => M' = M ∧ J' = J ∧ (noH M → x = -1))) := by
  refine ZN_of (L := [_, _, _]) (by decide) rfl rfl (Nat.le_of_ble_eq_true rfl) rfl (fun hav => ?_)
  refine Z_aload_n (n := 1) dX3_value_0 rfl rfl ?_
  refine Z_iload_n (n := 2) dX3_value_1 rfl rfl ?_
  refine Z_callVi (n := 5) [_] _ dX3_value_2 rfl cwX3_139 rfl rfl (by first | rfl | exact nS0 (nA_at (by omega) (by omega))) (Nat.le_of_ble_eq_true rfl) (by refine ⟨?_, ?_, ?_, ?_⟩ <;> exact Nat.le_of_ble_eq_true rfl) (fun _ h => h) (zX3_hasFunction  ) ?_
  intro x2 M2 J2 z2 f2 q2
  obtain ⟨e2_1, e2_2, h2⟩ := q2
  replace e2_1 := e2_1.symm; subst e2_1
  replace e2_2 := e2_2.symm; subst e2_2
  refine Z_if_ne (n := 8) (t := 10) dX3_value_5 rfl (by decide) (fun c5 => ?_) (fun c5 => ?_)
  · refine Z_iload_n (n := 11) dX3_value_10 rfl rfl ?_
    refine Z_callSi (n := 14) [_] _ dX3_value_11 rfl cwX3_91 rfl rfl (Nat.le_of_ble_eq_true rfl) (by refine ⟨?_, ?_, ?_, ?_⟩ <;> exact Nat.le_of_ble_eq_true rfl) (fun _ h => h) (zX3_isAssignment  ) ?_
    intro x11 M11 J11 z11 f11 q11
    obtain ⟨e11_1, e11_2, h11⟩ := q11
    replace e11_1 := e11_1.symm; subst e11_1
    replace e11_2 := e11_2.symm; subst e11_2
    refine Z_if_ne (n := 17) (t := 20) dX3_value_14 rfl (by decide) (fun c14 => ?_) (fun c14 => ?_)
    · refine Z_aload_n (n := 21) dX3_value_20 rfl rfl ?_
      refine Z_getO (n := 24) dX3_value_21 rfl ffX3_25 (by first | rfl | exact nS0 (nA_at (by omega) (by omega))) (by first | rfl | exact nS0 (nA_at (by omega) (by omega))) ?_
      refine Z_aload_n (n := 25) dX3_value_24 rfl rfl ?_
      refine Z_getA (n := 28) dX3_value_25 rfl ffX3_29 (by first | rfl | exact nS0 (nA_at (by omega) (by omega))) (by first | rfl | exact nS0 (nA_at (by omega) (by omega))) ?_
      refine Z_iload_n (n := 29) dX3_value_28 rfl rfl ?_
      refine Z_iald (n := 30) dX3_value_29 rfl (by first | rfl | exact nS0 (nA_at (by omega) (by omega))) rfl (by first | decide | assumption) (by omega) (by omega) (fun r29 s29 => ?_)
      refine Z_iload_n (n := 31) dX3_value_30 rfl rfl ?_
      refine Z_aload_n (n := 32) dX3_value_31 rfl rfl ?_
      refine Z_getO (n := 35) dX3_value_32 rfl ffX3_18 (by first | rfl | exact nS0 (nA_at (by omega) (by omega))) (by first | rfl | exact nS0 (nA_at (by omega) (by omega))) ?_
      refine Z_callVi (n := 38) [_, _, _] _ dX3_value_35 rfl cwX3_164 rfl rfl (by first | rfl | exact nS0 (nA_at (by omega) (by omega))) (Nat.le_of_ble_eq_true rfl) (by refine ⟨?_, ?_, ?_, ?_⟩ <;> exact Nat.le_of_ble_eq_true rfl) (fun _ h => h) (zX2_valueFor  (by first | assumption | omega | decide) (by first | assumption | omega | decide)) ?_
      intro x35 M35 J35 z35 f35 q35
      obtain ⟨e35_1, e35_2, h35⟩ := q35
      replace e35_1 := e35_1.symm; subst e35_1
      replace e35_2 := e35_2.symm; subst e35_2
      refine Z_iret dX3_value_38 rfl ?_
      exact ⟨rfl, rfl, fun q => by have := q f (by omega) (by omega); omega⟩
    · refine Z_bipush (n := 19) dX3_value_17 rfl (by decide) (by decide) ?_
      refine Z_iret dX3_value_19 rfl ?_
      exact ⟨rfl, rfl, fun q => by have := q f (by omega) (by omega); omega⟩
  · refine Z_iconst (n := 9) dX3_value_8 rfl (by decide) ?_
    refine Z_iret dX3_value_9 rfl ?_
    exact ⟨rfl, rfl, fun _ => rfl⟩
set_option maxRecDepth 20000 in
theorem zX3_same {G : tl_G} {M : zM} {J : zJ} {f g : Int}  : ZN G yX3_same mX3_same 2 kAll [vR 0, vI f, vI g] F1 M J (qI (fun x M' J' => M' = M ∧ J' = J ∧ (noH M → x = -1))) := by
  refine ZN_of (L := [_, _, _]) (by decide) rfl rfl (Nat.le_of_ble_eq_true rfl) rfl (fun hav => ?_)
  refine Z_aload_n (n := 1) dX3_same_0 rfl rfl ?_
  refine Z_iload_n (n := 2) dX3_same_1 rfl rfl ?_
  refine Z_callVi (n := 5) [_] _ dX3_same_2 rfl cwX3_139 rfl rfl (by first | rfl | exact nS0 (nA_at (by omega) (by omega))) (Nat.le_of_ble_eq_true rfl) (by refine ⟨?_, ?_, ?_, ?_⟩ <;> exact Nat.le_of_ble_eq_true rfl) (fun _ h => h) (zX3_hasFunction  ) ?_
  intro x2 M2 J2 z2 f2 q2
  obtain ⟨e2_1, e2_2, h2⟩ := q2
  replace e2_1 := e2_1.symm; subst e2_1
  replace e2_2 := e2_2.symm; subst e2_2
  refine Z_if_eq (n := 8) (t := 16) dX3_same_5 rfl (by decide) (fun c5 => ?_) (fun c5 => ?_)
  · refine Z_iconst (n := 17) dX3_same_16 rfl (by decide) ?_
    refine Z_iret dX3_same_17 rfl ?_
    exact ⟨rfl, rfl, fun _ => rfl⟩
  · refine Z_aload_n (n := 9) dX3_same_8 rfl rfl ?_
    refine Z_iload_n (n := 10) dX3_same_9 rfl rfl ?_
    refine Z_callVi (n := 13) [_] _ dX3_same_10 rfl cwX3_139 rfl rfl (by first | rfl | exact nS0 (nA_at (by omega) (by omega))) (Nat.le_of_ble_eq_true rfl) (by refine ⟨?_, ?_, ?_, ?_⟩ <;> exact Nat.le_of_ble_eq_true rfl) (fun _ h => h) (zX3_hasFunction  ) ?_
    intro x10 M10 J10 z10 f10 q10
    obtain ⟨e10_1, e10_2, h10⟩ := q10
    replace e10_1 := e10_1.symm; subst e10_1
    replace e10_2 := e10_2.symm; subst e10_2
    refine Z_if_ne (n := 16) (t := 18) dX3_same_13 rfl (by decide) (fun c13 => ?_) (fun c13 => ?_)
    · refine Z_aload_n (n := 19) dX3_same_18 rfl rfl ?_
      refine Z_getA (n := 22) dX3_same_19 rfl ffX3_29 (by first | rfl | exact nS0 (nA_at (by omega) (by omega))) (by first | rfl | exact nS0 (nA_at (by omega) (by omega))) ?_
      refine Z_iload_n (n := 23) dX3_same_22 rfl rfl ?_
      refine Z_iald (n := 24) dX3_same_23 rfl (by first | rfl | exact nS0 (nA_at (by omega) (by omega))) rfl (by first | decide | assumption) (by omega) (by omega) (fun r23 s23 => ?_)
      refine Z_aload_n (n := 25) dX3_same_24 rfl rfl ?_
      refine Z_getA (n := 28) dX3_same_25 rfl ffX3_29 (by first | rfl | exact nS0 (nA_at (by omega) (by omega))) (by first | rfl | exact nS0 (nA_at (by omega) (by omega))) ?_
      refine Z_iload_n (n := 29) dX3_same_28 rfl rfl ?_
      refine Z_iald (n := 30) dX3_same_29 rfl (by first | rfl | exact nS0 (nA_at (by omega) (by omega))) rfl (by first | decide | assumption) (by omega) (by omega) (fun r29 s29 => ?_)
      refine Z_icmp_ne (n := 33) (t := 37) dX3_same_30 rfl (by decide) (fun c30 => ?_) (fun c30 => ?_)
      · refine Z_iconst (n := 38) dX3_same_37 rfl (by decide) ?_
        refine Z_iret dX3_same_38 rfl ?_
        exact ⟨rfl, rfl, fun q => by have := q f (by omega) (by omega); omega⟩
      · refine Z_iconst (n := 34) dX3_same_33 rfl (by decide) ?_
        refine Z_goto (t := 38) dX3_same_34 (by decide) ?_
        refine Z_iret dX3_same_38 rfl ?_
        exact ⟨rfl, rfl, fun q => by have := q f (by omega) (by omega); omega⟩
    · refine Z_iconst (n := 17) dX3_same_16 rfl (by decide) ?_
      refine Z_iret dX3_same_17 rfl ?_
      exact ⟨rfl, rfl, fun _ => rfl⟩
set_option maxRecDepth 20000 in
theorem zX3_top {G : tl_G} {M : zM} {J : zJ} {f : Int}  : ZN G yX3_top mX3_top 2 kAll [vR 0, vI f] F1 M J (qI (fun x M' J' => M' = M ∧ J' = J ∧ (noH M → x = -1))) := by
  refine ZN_of (L := [_, _, _]) (by decide) rfl rfl (Nat.le_of_ble_eq_true rfl) rfl (fun hav => ?_)
  refine Z_aload_n (n := 1) dX3_top_0 rfl rfl ?_
  refine Z_iload_n (n := 2) dX3_top_1 rfl rfl ?_
  refine Z_callVi (n := 5) [_] _ dX3_top_2 rfl cwX3_139 rfl rfl (by first | rfl | exact nS0 (nA_at (by omega) (by omega))) (Nat.le_of_ble_eq_true rfl) (by refine ⟨?_, ?_, ?_, ?_⟩ <;> exact Nat.le_of_ble_eq_true rfl) (fun _ h => h) (zX3_hasFunction  ) ?_
  intro x2 M2 J2 z2 f2 q2
  obtain ⟨e2_1, e2_2, h2⟩ := q2
  replace e2_1 := e2_1.symm; subst e2_1
  replace e2_2 := e2_2.symm; subst e2_2
  refine Z_if_ne (n := 8) (t := 10) dX3_top_5 rfl (by decide) (fun c5 => ?_) (fun c5 => ?_)
  · refine Z_aload_n (n := 11) dX3_top_10 rfl rfl ?_
    refine Z_getO (n := 14) dX3_top_11 rfl ffX3_25 (by first | rfl | exact nS0 (nA_at (by omega) (by omega))) (by first | rfl | exact nS0 (nA_at (by omega) (by omega))) ?_
    refine Z_aload_n (n := 15) dX3_top_14 rfl rfl ?_
    refine Z_getA (n := 18) dX3_top_15 rfl ffX3_29 (by first | rfl | exact nS0 (nA_at (by omega) (by omega))) (by first | rfl | exact nS0 (nA_at (by omega) (by omega))) ?_
    refine Z_iload_n (n := 19) dX3_top_18 rfl rfl ?_
    refine Z_iald (n := 20) dX3_top_19 rfl (by first | rfl | exact nS0 (nA_at (by omega) (by omega))) rfl (by first | decide | assumption) (by omega) (by omega) (fun r19 s19 => ?_)
    refine Z_callVi (n := 23) [_] _ dX3_top_20 rfl cwX3_171 rfl rfl (by first | rfl | exact nS0 (nA_at (by omega) (by omega))) (Nat.le_of_ble_eq_true rfl) (by refine ⟨?_, ?_, ?_, ?_⟩ <;> exact Nat.le_of_ble_eq_true rfl) (fun _ h => h) (zX2_placeOf  (by first | assumption | omega | decide) (by first | assumption | omega | decide)) ?_
    intro x20 M20 J20 z20 f20 q20
    obtain ⟨e20_1, e20_2, h20⟩ := q20
    replace e20_1 := e20_1.symm; subst e20_1
    replace e20_2 := e20_2.symm; subst e20_2
    refine Z_istore_n (L' := [_, _, _]) (n := 24) dX3_top_23 rfl (by decide) rfl rfl ?_
    refine Z_iload_n (n := 25) dX3_top_24 rfl rfl ?_
    refine Z_bipush (n := 27) dX3_top_25 rfl (by decide) (by decide) ?_
    refine Z_icmp_ge (n := 30) (t := 41) dX3_top_27 rfl (by decide) (fun c27 => ?_) (fun c27 => ?_)
    · refine Z_bipush (n := 43) dX3_top_41 rfl (by decide) (by decide) ?_
      refine Z_iret dX3_top_43 rfl ?_
      exact ⟨rfl, rfl, fun q => by have := q f (by omega) (by omega); omega⟩
    · refine Z_aload_n (n := 31) dX3_top_30 rfl rfl ?_
      refine Z_getO (n := 34) dX3_top_31 rfl ffX3_18 (by first | rfl | exact nS0 (nA_at (by omega) (by omega))) (by first | rfl | exact nS0 (nA_at (by omega) (by omega))) ?_
      refine Z_iload_n (n := 35) dX3_top_34 rfl rfl ?_
      refine Z_rg 6 (M 12 f) rfl (fun g6 g6b => ?_)
      refine Z_callVi (n := 38) [_] _ dX3_top_35 rfl cwX3_114 rfl rfl (by first | rfl | exact nS0 (nA_at (by omega) (by omega))) (Nat.le_of_ble_eq_true rfl) (by refine ⟨?_, ?_, ?_, ?_⟩ <;> exact Nat.le_of_ble_eq_true rfl) (fun _ h => h) (zX1_variableAt  (by first | assumption | omega | decide) (by first | assumption | omega | decide)) ?_
      intro x35 M35 J35 z35 f35 q35
      obtain ⟨e35_1, e35_2, h35⟩ := q35
      replace e35_1 := e35_1.symm; subst e35_1
      replace e35_2 := e35_2.symm; subst e35_2
      refine Z_goto (t := 43) dX3_top_38 (by decide) ?_
      refine Z_iret dX3_top_43 rfl ?_
      exact ⟨rfl, rfl, fun q => by have := q f (by omega) (by omega); omega⟩
  · refine Z_iconst (n := 9) dX3_top_8 rfl (by decide) ?_
    refine Z_iret dX3_top_9 rfl ?_
    exact ⟨rfl, rfl, fun _ => rfl⟩
set_option maxRecDepth 20000 in
theorem zX3_least {G : tl_G} {M : zM} {J : zJ} {f y : Int}  : ZN G yX3_least mX3_least 2 kAll [vR 0, vI f, vI y] F1 M J (qI (fun x M' J' => M' = M ∧ J' = J ∧ (noH M → x = -1))) := by
  refine ZN_of (L := [_, _, _]) (by decide) rfl rfl (Nat.le_of_ble_eq_true rfl) rfl (fun hav => ?_)
  refine Z_aload_n (n := 1) dX3_least_0 rfl rfl ?_
  refine Z_iload_n (n := 2) dX3_least_1 rfl rfl ?_
  refine Z_callVi (n := 5) [_] _ dX3_least_2 rfl cwX3_139 rfl rfl (by first | rfl | exact nS0 (nA_at (by omega) (by omega))) (Nat.le_of_ble_eq_true rfl) (by refine ⟨?_, ?_, ?_, ?_⟩ <;> exact Nat.le_of_ble_eq_true rfl) (fun _ h => h) (zX3_hasFunction  ) ?_
  intro x2 M2 J2 z2 f2 q2
  obtain ⟨e2_1, e2_2, h2⟩ := q2
  replace e2_1 := e2_1.symm; subst e2_1
  replace e2_2 := e2_2.symm; subst e2_2
  refine Z_if_ne (n := 8) (t := 10) dX3_least_5 rfl (by decide) (fun c5 => ?_) (fun c5 => ?_)
  · refine Z_aload_n (n := 11) dX3_least_10 rfl rfl ?_
    refine Z_getO (n := 14) dX3_least_11 rfl ffX3_25 (by first | rfl | exact nS0 (nA_at (by omega) (by omega))) (by first | rfl | exact nS0 (nA_at (by omega) (by omega))) ?_
    refine Z_aload_n (n := 15) dX3_least_14 rfl rfl ?_
    refine Z_getA (n := 18) dX3_least_15 rfl ffX3_29 (by first | rfl | exact nS0 (nA_at (by omega) (by omega))) (by first | rfl | exact nS0 (nA_at (by omega) (by omega))) ?_
    refine Z_iload_n (n := 19) dX3_least_18 rfl rfl ?_
    refine Z_iald (n := 20) dX3_least_19 rfl (by first | rfl | exact nS0 (nA_at (by omega) (by omega))) rfl (by first | decide | assumption) (by omega) (by omega) (fun r19 s19 => ?_)
    refine Z_iload_n (n := 21) dX3_least_20 rfl rfl ?_
    refine Z_if_eq (n := 24) (t := 28) dX3_least_21 rfl (by decide) (fun c21 => ?_) (fun c21 => ?_)
    · refine Z_iconst (n := 29) dX3_least_28 rfl (by decide) ?_
      refine Z_aload_n (n := 30) dX3_least_29 rfl rfl ?_
      refine Z_getO (n := 33) dX3_least_30 rfl ffX3_18 (by first | rfl | exact nS0 (nA_at (by omega) (by omega))) (by first | rfl | exact nS0 (nA_at (by omega) (by omega))) ?_
      refine Z_callVi (n := 36) [_, _, _] _ dX3_least_33 rfl cwX3_175 rfl rfl (by first | rfl | exact nS0 (nA_at (by omega) (by omega))) (Nat.le_of_ble_eq_true rfl) (by refine ⟨?_, ?_, ?_, ?_⟩ <;> exact Nat.le_of_ble_eq_true rfl) (fun _ h => h) (zX2_leastFor  (by first | assumption | omega | decide) (by first | assumption | omega | decide)) ?_
      intro x33 M33 J33 z33 f33 q33
      obtain ⟨e33_1, e33_2⟩ := q33
      replace e33_1 := e33_1.symm; subst e33_1
      replace e33_2 := e33_2.symm; subst e33_2
      refine Z_iret dX3_least_36 rfl ?_
      exact ⟨rfl, rfl, fun q => by have := q f (by omega) (by omega); omega⟩
    · refine Z_iconst (n := 25) dX3_least_24 rfl (by decide) ?_
      refine Z_goto (t := 29) dX3_least_25 (by decide) ?_
      refine Z_aload_n (n := 30) dX3_least_29 rfl rfl ?_
      refine Z_getO (n := 33) dX3_least_30 rfl ffX3_18 (by first | rfl | exact nS0 (nA_at (by omega) (by omega))) (by first | rfl | exact nS0 (nA_at (by omega) (by omega))) ?_
      refine Z_callVi (n := 36) [_, _, _] _ dX3_least_33 rfl cwX3_175 rfl rfl (by first | rfl | exact nS0 (nA_at (by omega) (by omega))) (Nat.le_of_ble_eq_true rfl) (by refine ⟨?_, ?_, ?_, ?_⟩ <;> exact Nat.le_of_ble_eq_true rfl) (fun _ h => h) (zX2_leastFor  (by first | assumption | omega | decide) (by first | assumption | omega | decide)) ?_
      intro x33 M33 J33 z33 f33 q33
      obtain ⟨e33_1, e33_2⟩ := q33
      replace e33_1 := e33_1.symm; subst e33_1
      replace e33_2 := e33_2.symm; subst e33_2
      refine Z_iret dX3_least_36 rfl ?_
      exact ⟨rfl, rfl, fun q => by have := q f (by omega) (by omega); omega⟩
  · refine Z_iconst (n := 9) dX3_least_8 rfl (by decide) ?_
    refine Z_iret dX3_least_9 rfl ?_
    exact ⟨rfl, rfl, fun _ => rfl⟩
set_option maxRecDepth 20000 in
theorem zX3_paths {G : tl_G} {M : zM} {J : zJ} {f y : Int}  : ZN G yX3_paths mX3_paths 10 kAll [vR 0, vI f, vI y] F1 M J (qI (fun x M' J' => M' = M ∧ J' = J ∧ (noH M → x = -1))) := by
  refine ZN_of (L := [_, _, _]) (by decide) rfl rfl (Nat.le_of_ble_eq_true rfl) rfl (fun hav => ?_)
  refine Z_aload_n (n := 1) dX3_paths_0 rfl rfl ?_
  refine Z_iload_n (n := 2) dX3_paths_1 rfl rfl ?_
  refine Z_callVi (n := 5) [_] _ dX3_paths_2 rfl cwX3_139 rfl rfl (by first | rfl | exact nS0 (nA_at (by omega) (by omega))) (Nat.le_of_ble_eq_true rfl) (by refine ⟨?_, ?_, ?_, ?_⟩ <;> exact Nat.le_of_ble_eq_true rfl) (fun _ h => h) (zX3_hasFunction  ) ?_
  intro x2 M2 J2 z2 f2 q2
  obtain ⟨e2_1, e2_2, h2⟩ := q2
  replace e2_1 := e2_1.symm; subst e2_1
  replace e2_2 := e2_2.symm; subst e2_2
  refine Z_if_ne (n := 8) (t := 10) dX3_paths_5 rfl (by decide) (fun c5 => ?_) (fun c5 => ?_)
  · refine Z_aload_n (n := 11) dX3_paths_10 rfl rfl ?_
    refine Z_getO (n := 14) dX3_paths_11 rfl ffX3_25 (by first | rfl | exact nS0 (nA_at (by omega) (by omega))) (by first | rfl | exact nS0 (nA_at (by omega) (by omega))) ?_
    refine Z_aload_n (n := 15) dX3_paths_14 rfl rfl ?_
    refine Z_getA (n := 18) dX3_paths_15 rfl ffX3_29 (by first | rfl | exact nS0 (nA_at (by omega) (by omega))) (by first | rfl | exact nS0 (nA_at (by omega) (by omega))) ?_
    refine Z_iload_n (n := 19) dX3_paths_18 rfl rfl ?_
    refine Z_iald (n := 20) dX3_paths_19 rfl (by first | rfl | exact nS0 (nA_at (by omega) (by omega))) rfl (by first | decide | assumption) (by omega) (by omega) (fun r19 s19 => ?_)
    refine Z_iload_n (n := 21) dX3_paths_20 rfl rfl ?_
    refine Z_if_eq (n := 24) (t := 28) dX3_paths_21 rfl (by decide) (fun c21 => ?_) (fun c21 => ?_)
    · refine Z_iconst (n := 29) dX3_paths_28 rfl (by decide) ?_
      refine Z_callVi (n := 32) [_, _] _ dX3_paths_29 rfl cwX3_178 rfl rfl (by first | rfl | exact nS0 (nA_at (by omega) (by omega))) (Nat.le_of_ble_eq_true rfl) (by refine ⟨?_, ?_, ?_, ?_⟩ <;> exact Nat.le_of_ble_eq_true rfl) (fun _ h => h) (zX2_pathCount  (by first | assumption | omega | decide) (by first | assumption | omega | decide)) ?_
      intro x29 M29 J29 z29 f29 q29
      obtain ⟨e29_1, e29_2⟩ := q29
      replace e29_1 := e29_1.symm; subst e29_1
      replace e29_2 := e29_2.symm; subst e29_2
      refine Z_iret dX3_paths_32 rfl ?_
      exact ⟨rfl, rfl, fun q => by have := q f (by omega) (by omega); omega⟩
    · refine Z_iconst (n := 25) dX3_paths_24 rfl (by decide) ?_
      refine Z_goto (t := 29) dX3_paths_25 (by decide) ?_
      refine Z_callVi (n := 32) [_, _] _ dX3_paths_29 rfl cwX3_178 rfl rfl (by first | rfl | exact nS0 (nA_at (by omega) (by omega))) (Nat.le_of_ble_eq_true rfl) (by refine ⟨?_, ?_, ?_, ?_⟩ <;> exact Nat.le_of_ble_eq_true rfl) (fun _ h => h) (zX2_pathCount  (by first | assumption | omega | decide) (by first | assumption | omega | decide)) ?_
      intro x29 M29 J29 z29 f29 q29
      obtain ⟨e29_1, e29_2⟩ := q29
      replace e29_1 := e29_1.symm; subst e29_1
      replace e29_2 := e29_2.symm; subst e29_2
      refine Z_iret dX3_paths_32 rfl ?_
      exact ⟨rfl, rfl, fun q => by have := q f (by omega) (by omega); omega⟩
  · refine Z_iconst (n := 9) dX3_paths_8 rfl (by decide) ?_
    refine Z_iret dX3_paths_9 rfl ?_
    exact ⟨rfl, rfl, fun _ => rfl⟩
set_option maxRecDepth 20000 in
theorem zX3_count {G : tl_G} {M : zM} {J : zJ} {f : Int}  : ZN G yX3_count mX3_count 2 kAll [vR 0, vI f] F1 M J (qI (fun x M' J' => M' = M ∧ J' = J ∧ (noH M → x = -1))) := by
  refine ZN_of (L := [_, _, _, _]) (by decide) rfl rfl (Nat.le_of_ble_eq_true rfl) rfl (fun hav => ?_)
  refine Z_aload_n (n := 1) dX3_count_0 rfl rfl ?_
  refine Z_iload_n (n := 2) dX3_count_1 rfl rfl ?_
  refine Z_callVi (n := 5) [_] _ dX3_count_2 rfl cwX3_139 rfl rfl (by first | rfl | exact nS0 (nA_at (by omega) (by omega))) (Nat.le_of_ble_eq_true rfl) (by refine ⟨?_, ?_, ?_, ?_⟩ <;> exact Nat.le_of_ble_eq_true rfl) (fun _ h => h) (zX3_hasFunction  ) ?_
  intro x2 M2 J2 z2 f2 q2
  obtain ⟨e2_1, e2_2, h2⟩ := q2
  replace e2_1 := e2_1.symm; subst e2_1
  replace e2_2 := e2_2.symm; subst e2_2
  refine Z_if_ne (n := 8) (t := 10) dX3_count_5 rfl (by decide) (fun c5 => ?_) (fun c5 => ?_)
  · refine Z_iconst (n := 11) dX3_count_10 rfl (by decide) ?_
    refine Z_istore_n (L' := [_, _, _, _]) (n := 12) dX3_count_11 rfl (by decide) rfl rfl ?_
    refine Z_iconst (n := 13) dX3_count_12 rfl (by decide) ?_
    refine Z_istore_n (L' := [_, _, _, _]) (n := 14) dX3_count_13 rfl (by decide) rfl rfl ?_
    have lp14 : ∀ (N14 : Nat) (n a : Int) , ((256 - a).toNat) < N14 → (0 ≤ a) → (a ≤ 256) → (0 ≤ n) → (n ≤ a) → TZ G mX3_count (tl_rm 2 0 0) 0 0 kAll M J 14 [some (vR 0), some (vI f), some (vI n), some (vI a)] [] F1 M J (ZM G (zPost G kAll F1 M J (qI (fun x M' J' => M' = M ∧ J' = J ∧ (noH M → x = -1)))) 0 0) := by
      intro N14
      induction N14 with
      | zero => intro n a  hN; omega
      | succ N14 ih14 =>
        intro n a  hN14 i14_0 i14_1 i14_2 i14_3
        refine Z_iload_n (n := 15) dX3_count_14 rfl rfl ?_
        refine Z_sipush (n := 18) dX3_count_15 rfl (by decide) (by decide) ?_
        refine Z_icmp_ge (n := 21) (t := 48) dX3_count_18 rfl (by decide) (fun c18 => ?_) (fun c18 => ?_)
        · refine Z_iload_n (n := 49) dX3_count_48 rfl rfl ?_
          refine Z_iret dX3_count_49 rfl ?_
          exact ⟨rfl, rfl, fun q => by have := q f (by omega) (by omega); omega⟩
        · refine Z_iload_n (n := 22) dX3_count_21 rfl rfl ?_
          refine Z_aload_n (n := 23) dX3_count_22 rfl rfl ?_
          refine Z_getO (n := 26) dX3_count_23 rfl ffX3_25 (by first | rfl | exact nS0 (nA_at (by omega) (by omega))) (by first | rfl | exact nS0 (nA_at (by omega) (by omega))) ?_
          refine Z_aload_n (n := 27) dX3_count_26 rfl rfl ?_
          refine Z_getA (n := 30) dX3_count_27 rfl ffX3_29 (by first | rfl | exact nS0 (nA_at (by omega) (by omega))) (by first | rfl | exact nS0 (nA_at (by omega) (by omega))) ?_
          refine Z_iload_n (n := 31) dX3_count_30 rfl rfl ?_
          refine Z_iald (n := 32) dX3_count_31 rfl (by first | rfl | exact nS0 (nA_at (by omega) (by omega))) rfl (by first | decide | assumption) (by omega) (by omega) (fun r31 s31 => ?_)
          refine Z_iload_n (n := 33) dX3_count_32 rfl rfl ?_
          refine Z_aload_n (n := 34) dX3_count_33 rfl rfl ?_
          refine Z_getO (n := 37) dX3_count_34 rfl ffX3_18 (by first | rfl | exact nS0 (nA_at (by omega) (by omega))) (by first | rfl | exact nS0 (nA_at (by omega) (by omega))) ?_
          refine Z_callVi (n := 40) [_, _, _] _ dX3_count_37 rfl cwX3_164 rfl rfl (by first | rfl | exact nS0 (nA_at (by omega) (by omega))) (Nat.le_of_ble_eq_true rfl) (by refine ⟨?_, ?_, ?_, ?_⟩ <;> exact Nat.le_of_ble_eq_true rfl) (fun _ h => h) (zX2_valueFor  (by first | assumption | omega | decide) (by first | assumption | omega | decide)) ?_
          intro x37 M37 J37 z37 f37 q37
          obtain ⟨e37_1, e37_2, h37⟩ := q37
          replace e37_1 := e37_1.symm; subst e37_1
          replace e37_2 := e37_2.symm; subst e37_2
          refine Z_iadd (n := 41) dX3_count_40 rfl (by omega) ?_
          refine Z_istore_n (L' := [_, _, _, _]) (n := 42) dX3_count_41 rfl (by decide) rfl rfl ?_
          refine Z_iinc (L' := [_, _, _, _]) (n := 45) dX3_count_42 rfl rfl (by decide) rfl rfl (by omega) rfl ?_
          refine Z_goto (t := 14) dX3_count_45 (by decide) ?_
          refine Z_loc (L' := [some _, some _, some _, some _]) (lsub_same (lsub_same (lsub_same (lsub_same lsub_nil)))) ?_
          exact ih14 _ _  (by omega) (by first | assumption | omega | decide) (by first | assumption | omega | decide) (by first | assumption | omega | decide) (by first | assumption | omega | decide)
    refine Z_loc (L' := [some _, some _, some _, some _]) (lsub_same (lsub_same (lsub_same (lsub_same lsub_nil)))) ?_
    exact lp14 _ _ _  (Nat.lt_succ_self _) (by first | assumption | omega | decide) (by first | assumption | omega | decide) (by first | assumption | omega | decide) (by first | assumption | omega | decide)
  · refine Z_iconst (n := 9) dX3_count_8 rfl (by decide) ?_
    refine Z_iret dX3_count_9 rfl ?_
    exact ⟨rfl, rfl, fun _ => rfl⟩
set_option maxRecDepth 20000 in
theorem zX3_peak {G : tl_G} {M : zM} {J : zJ}   : ZN G yX3_peak mX3_peak 0 kAll [vR 0] F1 M J (qI (fun x M' J' => M' = M ∧ J' = J ∧ x = M 0 8)) := by
  refine ZN_of (L := [_]) (by decide) rfl rfl (Nat.le_of_ble_eq_true rfl) rfl (fun hav => ?_)
  refine Z_aload_n (n := 1) dX3_peak_0 rfl rfl ?_
  refine Z_getI (n := 4) (ki := 8) dX3_peak_1 rfl ffX3_46 rfl (by first | rfl | exact nS0 (nA_at (by omega) (by omega))) rfl (fun r1 s1 => ?_)
  refine Z_iret dX3_peak_4 rfl ?_
  exact ⟨rfl, rfl, rfl⟩
set_option maxRecDepth 20000 in
theorem zX3_parting {G : tl_G} {M : zM} {J : zJ} {w : Int}  : ZN G yX3_parting mX3_parting 0 kAll [vR 0, vI w] F1 M J (qI (fun x M' J' => M' = M ∧ J' = J ∧ ((w = 0 ∧ x = M 0 9) ∨ (w = 1 ∧ x = M 0 10) ∨ ((w < 0 ∨ 1 < w) ∧ x = -2)))) := by
  refine ZN_of (L := [_, _]) (by decide) rfl rfl (Nat.le_of_ble_eq_true rfl) rfl (fun hav => ?_)
  refine Z_iload_n (n := 1) dX3_parting_0 rfl rfl ?_
  refine Z_if_lt (n := 4) (t := 9) dX3_parting_1 rfl (by decide) (fun c1 => ?_) (fun c1 => ?_)
  · refine Z_bipush (n := 11) dX3_parting_9 rfl (by decide) (by decide) ?_
    refine Z_iret dX3_parting_11 rfl ?_
    refine ⟨rfl, rfl, ?_⟩; omega
  · refine Z_iload_n (n := 5) dX3_parting_4 rfl rfl ?_
    refine Z_iconst (n := 6) dX3_parting_5 rfl (by decide) ?_
    refine Z_icmp_le (n := 9) (t := 12) dX3_parting_6 rfl (by decide) (fun c6 => ?_) (fun c6 => ?_)
    · refine Z_iload_n (n := 13) dX3_parting_12 rfl rfl ?_
      refine Z_if_ne (n := 16) (t := 23) dX3_parting_13 rfl (by decide) (fun c13 => ?_) (fun c13 => ?_)
      · refine Z_aload_n (n := 24) dX3_parting_23 rfl rfl ?_
        refine Z_getI (n := 27) (ki := 10) dX3_parting_24 rfl ffX3_52 rfl (by first | rfl | exact nS0 (nA_at (by omega) (by omega))) rfl (fun r24 s24 => ?_)
        refine Z_iret dX3_parting_27 rfl ?_
        refine ⟨rfl, rfl, ?_⟩; omega
      · refine Z_aload_n (n := 17) dX3_parting_16 rfl rfl ?_
        refine Z_getI (n := 20) (ki := 9) dX3_parting_17 rfl ffX3_49 rfl (by first | rfl | exact nS0 (nA_at (by omega) (by omega))) rfl (fun r17 s17 => ?_)
        refine Z_goto (t := 27) dX3_parting_20 (by decide) ?_
        refine Z_iret dX3_parting_27 rfl ?_
        refine ⟨rfl, rfl, ?_⟩; omega
    · refine Z_bipush (n := 11) dX3_parting_9 rfl (by decide) (by decide) ?_
      refine Z_iret dX3_parting_11 rfl ?_
      refine ⟨rfl, rfl, ?_⟩; omega
set_option maxRecDepth 20000 in
theorem zX3_told {G : tl_G} {M : zM} {J : zJ} {w : Int}  : ZN G yX3_told mX3_told 1 kAll [vR 0, vI w] F1 M J (qI (fun x M' J' => M' = M ∧ J' = J ∧ (((w < 0 ∨ 7 < w) ∧ x = -2) ∨ (0 ≤ w ∧ w < 3 ∧ x = M (nA w) 4) ∨ (3 ≤ w ∧ w < 6 ∧ x = M (nA (w - 3)) 5) ∨ (w = 6 ∧ x = hc (M 12) 12) ∨ (w = 7 ∧ x = M 5 8)))) := by
  refine ZN_of (L := [_, _]) (by decide) rfl rfl (Nat.le_of_ble_eq_true rfl) rfl (fun hav => ?_)
  refine Z_iload_n (n := 1) dX3_told_0 rfl rfl ?_
  refine Z_if_lt (n := 4) (t := 10) dX3_told_1 rfl (by decide) (fun c1 => ?_) (fun c1 => ?_)
  · refine Z_bipush (n := 12) dX3_told_10 rfl (by decide) (by decide) ?_
    refine Z_iret dX3_told_12 rfl ?_
    refine ⟨rfl, rfl, ?_⟩; omega
  · refine Z_iload_n (n := 5) dX3_told_4 rfl rfl ?_
    refine Z_bipush (n := 7) dX3_told_5 rfl (by decide) (by decide) ?_
    refine Z_icmp_le (n := 10) (t := 13) dX3_told_7 rfl (by decide) (fun c7 => ?_) (fun c7 => ?_)
    · refine Z_iload_n (n := 14) dX3_told_13 rfl rfl ?_
      refine Z_iconst (n := 15) dX3_told_14 rfl (by decide) ?_
      refine Z_icmp_ge (n := 18) (t := 28) dX3_told_15 rfl (by decide) (fun c15 => ?_) (fun c15 => ?_)
      · refine Z_iload_n (n := 29) dX3_told_28 rfl rfl ?_
        refine Z_bipush (n := 31) dX3_told_29 rfl (by decide) (by decide) ?_
        refine Z_icmp_ge (n := 34) (t := 46) dX3_told_31 rfl (by decide) (fun c31 => ?_) (fun c31 => ?_)
        · refine Z_iload_n (n := 47) dX3_told_46 rfl rfl ?_
          refine Z_bipush (n := 49) dX3_told_47 rfl (by decide) (by decide) ?_
          refine Z_icmp_ne (n := 52) (t := 59) dX3_told_49 rfl (by decide) (fun c49 => ?_) (fun c49 => ?_)
          · refine Z_aload_n (n := 60) dX3_told_59 rfl rfl ?_
            refine Z_getO (n := 63) dX3_told_60 rfl ffX3_25 (by first | rfl | exact nS0 (nA_at (by omega) (by omega))) (by first | rfl | exact nS0 (nA_at (by omega) (by omega))) ?_
            refine Z_callVi (n := 66) [] _ dX3_told_63 rfl cwX3_194 rfl rfl (by first | rfl | exact nS0 (nA_at (by omega) (by omega))) (Nat.le_of_ble_eq_true rfl) (by refine ⟨?_, ?_, ?_, ?_⟩ <;> exact Nat.le_of_ble_eq_true rfl) (fun _ h => h) (zX2_limit  ) ?_
            intro x63 M63 J63 z63 f63 q63
            obtain ⟨e63_1, e63_2, h63⟩ := q63
            replace e63_1 := e63_1.symm; subst e63_1
            replace e63_2 := e63_2.symm; subst e63_2
            refine Z_iret dX3_told_66 rfl ?_
            first | exact ⟨rfl, rfl, Or.inr (Or.inr (Or.inr (Or.inl ⟨by omega, h53⟩)))⟩ | exact ⟨rfl, rfl, Or.inr (Or.inr (Or.inr (Or.inr ⟨by omega, h63⟩)))⟩
          · refine Z_aload_n (n := 53) dX3_told_52 rfl rfl ?_
            refine Z_callVi (n := 56) [] _ dX3_told_53 rfl cwX3_98 rfl rfl (by first | rfl | exact nS0 (nA_at (by omega) (by omega))) (Nat.le_of_ble_eq_true rfl) (by refine ⟨?_, ?_, ?_, ?_⟩ <;> exact Nat.le_of_ble_eq_true rfl) (fun _ h => h) (zX3_heldCount  ) ?_
            intro x53 M53 J53 z53 f53 q53
            obtain ⟨e53_1, e53_2, h53⟩ := q53
            replace e53_1 := e53_1.symm; subst e53_1
            replace e53_2 := e53_2.symm; subst e53_2
            refine Z_goto (t := 66) dX3_told_56 (by decide) ?_
            refine Z_iret dX3_told_66 rfl ?_
            first | exact ⟨rfl, rfl, Or.inr (Or.inr (Or.inr (Or.inl ⟨by omega, h53⟩)))⟩ | exact ⟨rfl, rfl, Or.inr (Or.inr (Or.inr (Or.inr ⟨by omega, h63⟩)))⟩
        · refine Z_aload_n (n := 35) dX3_told_34 rfl rfl ?_
          refine Z_getA (n := 38) dX3_told_35 rfl ffX3_11 (by first | rfl | exact nS0 (nA_at (by omega) (by omega))) (by first | rfl | exact nS0 (nA_at (by omega) (by omega))) ?_
          refine Z_iload_n (n := 39) dX3_told_38 rfl rfl ?_
          refine Z_iconst (n := 40) dX3_told_39 rfl (by decide) ?_
          refine Z_isub (n := 41) dX3_told_40 rfl (by omega) ?_
          refine Z_aald (n := 42) dX3_told_41 rfl (by first | rfl | exact nS0 (nA_at (by omega) (by omega))) (by decide) (by omega) (by omega) (nA_P (by omega) (by omega)) ?_
          refine Z_callVi (n := 45) [] _ dX3_told_42 rfl cwX3_181 rfl rfl (by first | rfl | exact nS0 (nA_at (by omega) (by omega))) (Nat.le_of_ble_eq_true rfl) (by refine ⟨?_, ?_, ?_, ?_⟩ <;> exact Nat.le_of_ble_eq_true rfl) (fun _ h => h) (zX0_outputCount  (by exact nA_at (by omega) (by omega))) ?_
          intro x42 M42 J42 z42 f42 q42
          obtain ⟨e42_1, e42_2, h42⟩ := q42
          replace e42_1 := e42_1.symm; subst e42_1
          replace e42_2 := e42_2.symm; subst e42_2
          refine Z_iret dX3_told_45 rfl ?_
          exact ⟨rfl, rfl, Or.inr (Or.inr (Or.inl ⟨by omega, by omega, h42⟩))⟩
      · refine Z_aload_n (n := 19) dX3_told_18 rfl rfl ?_
        refine Z_getA (n := 22) dX3_told_19 rfl ffX3_11 (by first | rfl | exact nS0 (nA_at (by omega) (by omega))) (by first | rfl | exact nS0 (nA_at (by omega) (by omega))) ?_
        refine Z_iload_n (n := 23) dX3_told_22 rfl rfl ?_
        refine Z_aald (n := 24) dX3_told_23 rfl (by first | rfl | exact nS0 (nA_at (by omega) (by omega))) (by decide) (by omega) (by omega) (nA_P (by omega) (by omega)) ?_
        refine Z_callVi (n := 27) [] _ dX3_told_24 rfl cwX3_191 rfl rfl (by first | rfl | exact nS0 (nA_at (by omega) (by omega))) (Nat.le_of_ble_eq_true rfl) (by refine ⟨?_, ?_, ?_, ?_⟩ <;> exact Nat.le_of_ble_eq_true rfl) (fun _ h => h) (zX0_gateCount  (by exact nA_at (by omega) (by omega))) ?_
        intro x24 M24 J24 z24 f24 q24
        obtain ⟨e24_1, e24_2, h24⟩ := q24
        replace e24_1 := e24_1.symm; subst e24_1
        replace e24_2 := e24_2.symm; subst e24_2
        refine Z_iret dX3_told_27 rfl ?_
        exact ⟨rfl, rfl, Or.inr (Or.inl ⟨by omega, by omega, h24⟩)⟩
    · refine Z_bipush (n := 12) dX3_told_10 rfl (by decide) (by decide) ?_
      refine Z_iret dX3_told_12 rfl ?_
      refine ⟨rfl, rfl, ?_⟩; omega
