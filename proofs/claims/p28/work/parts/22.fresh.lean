/-! ===== the reference on a fresh object: refusals, order ===== -/
set_option maxRecDepth 20000 in
theorem zX4_gives_1 {G : tl_G} {M : zM} {J : zJ} {net o a : Int} (hN : noOutR M) : ZN G yX4_gives mX4_gives 4 kAll [vR 31, vI net, vI o, vI a] F1 M J (qI (fun x M' J' => M' = M ∧ J' = J ∧ x = -1)) := by
  refine ZN_of (L := [_, _, _, _, _, _, _, _, _, _]) (by decide) rfl rfl (Nat.le_of_ble_eq_true rfl) rfl (fun hav => ?_)
  refine Z_aload_n (n := 1) dX4_gives_0 rfl rfl ?_
  refine Z_iload_n (n := 2) dX4_gives_1 rfl rfl ?_
  refine Z_iload_n (n := 3) dX4_gives_2 rfl rfl ?_
  refine Z_callVi (n := 6) [_, _] _ dX4_gives_3 rfl cwX4_128 rfl rfl rfl (Nat.le_of_ble_eq_true rfl) (by refine ⟨?_, ?_, ?_, ?_⟩ <;> exact Nat.le_of_ble_eq_true rfl) (fun _ h => h) (zX4_isOutput  ) ?_
  intro x3 M3 J3 z3 f3 q3
  obtain ⟨e3_1, e3_2, h3⟩ := q3
  replace e3_1 := e3_1.symm; subst e3_1
  replace e3_2 := e3_2.symm; subst e3_2
  refine Z_if_ne (n := 9) (t := 11) dX4_gives_6 rfl (by decide) (fun c6 => ?_) (fun c6 => ?_)
  · have := hN net (by omega) (by omega); omega
  · refine Z_iconst (n := 10) dX4_gives_9 rfl (by decide) ?_
    refine Z_iret dX4_gives_10 rfl ?_
    exact ⟨rfl, rfl, rfl⟩
set_option maxRecDepth 20000 in
theorem zX4_build_1 {G : tl_G} {M : zM} {J : zJ} {h net o : Int} (hN : noOutR M) : ZN G yX4_build mX4_build 4 kAll [vR 31, vI h, vI net, vI o] F1 M J (qI (fun x M' J' => M' = M ∧ J' = J ∧ x = -1)) := by
  refine ZN_of (L := [_, _, _, _, _]) (by decide) rfl rfl (Nat.le_of_ble_eq_true rfl) rfl (fun hav => ?_)
  refine Z_iload_n (n := 1) dX4_build_0 rfl rfl ?_
  refine Z_callSi (n := 4) [_] _ dX4_build_1 rfl cwX4_210 rfl rfl (Nat.le_of_ble_eq_true rfl) (by refine ⟨?_, ?_, ?_, ?_⟩ <;> exact Nat.le_of_ble_eq_true rfl) (fun _ h => h) (zX4_isHandle  ) ?_
  intro x1 M1 J1 z1 f1 q1
  obtain ⟨e1_1, e1_2, h1⟩ := q1
  replace e1_1 := e1_1.symm; subst e1_1
  replace e1_2 := e1_2.symm; subst e1_2
  refine Z_if_eq (n := 7) (t := 16) dX4_build_4 rfl (by decide) (fun c4 => ?_) (fun c4 => ?_)
  · refine Z_iconst (n := 17) dX4_build_16 rfl (by decide) ?_
    refine Z_iret dX4_build_17 rfl ?_
    exact ⟨rfl, rfl, rfl⟩
  · refine Z_aload_n (n := 8) dX4_build_7 rfl rfl ?_
    refine Z_iload_n (n := 9) dX4_build_8 rfl rfl ?_
    refine Z_iload_n (n := 10) dX4_build_9 rfl rfl ?_
    refine Z_callVi (n := 13) [_, _] _ dX4_build_10 rfl cwX4_128 rfl rfl rfl (Nat.le_of_ble_eq_true rfl) (by refine ⟨?_, ?_, ?_, ?_⟩ <;> exact Nat.le_of_ble_eq_true rfl) (fun _ h => h) (zX4_isOutput  ) ?_
    intro x10 M10 J10 z10 f10 q10
    obtain ⟨e10_1, e10_2, h10⟩ := q10
    replace e10_1 := e10_1.symm; subst e10_1
    replace e10_2 := e10_2.symm; subst e10_2
    refine Z_if_ne (n := 16) (t := 18) dX4_build_13 rfl (by decide) (fun c13 => ?_) (fun c13 => ?_)
    · have := hN net (by omega) (by omega); omega
    · refine Z_iconst (n := 17) dX4_build_16 rfl (by decide) ?_
      refine Z_iret dX4_build_17 rfl ?_
      exact ⟨rfl, rfl, rfl⟩
set_option maxRecDepth 20000 in
theorem zX4_choose_1 {G : tl_G} {M : zM} {J : zJ} {h f g k : Int} (hN : noHr M) : ZN G yX4_choose mX4_choose 4 kAll [vR 31, vI h, vI f, vI g, vI k] F1 M J (qI (fun x M' J' => M' = M ∧ J' = J ∧ x = -1)) := by
  refine ZN_of (L := [_, _, _, _, _]) (by decide) rfl rfl (Nat.le_of_ble_eq_true rfl) rfl (fun hav => ?_)
  refine Z_iload_n (n := 1) dX4_choose_0 rfl rfl ?_
  refine Z_callSi (n := 4) [_] _ dX4_choose_1 rfl cwX4_210 rfl rfl (Nat.le_of_ble_eq_true rfl) (by refine ⟨?_, ?_, ?_, ?_⟩ <;> exact Nat.le_of_ble_eq_true rfl) (fun _ h => h) (zX4_isHandle  ) ?_
  intro x1 M1 J1 z1 f1 q1
  obtain ⟨e1_1, e1_2, h1⟩ := q1
  replace e1_1 := e1_1.symm; subst e1_1
  replace e1_2 := e1_2.symm; subst e1_2
  refine Z_if_eq (n := 7) (t := 32) dX4_choose_4 rfl (by decide) (fun c4 => ?_) (fun c4 => ?_)
  · refine Z_iconst (n := 33) dX4_choose_32 rfl (by decide) ?_
    refine Z_iret dX4_choose_33 rfl ?_
    exact ⟨rfl, rfl, rfl⟩
  · refine Z_aload_n (n := 8) dX4_choose_7 rfl rfl ?_
    refine Z_iload_n (n := 9) dX4_choose_8 rfl rfl ?_
    refine Z_callVi (n := 12) [_] _ dX4_choose_9 rfl cwX4_223 rfl rfl rfl (Nat.le_of_ble_eq_true rfl) (by refine ⟨?_, ?_, ?_, ?_⟩ <;> exact Nat.le_of_ble_eq_true rfl) (fun _ h => h) (zX4_isFunction  ) ?_
    intro x9 M9 J9 z9 f9 q9
    obtain ⟨e9_1, e9_2, h9⟩ := q9
    replace e9_1 := e9_1.symm; subst e9_1
    replace e9_2 := e9_2.symm; subst e9_2
    refine Z_if_eq (n := 15) (t := 32) dX4_choose_12 rfl (by decide) (fun c12 => ?_) (fun c12 => ?_)
    · refine Z_iconst (n := 33) dX4_choose_32 rfl (by decide) ?_
      refine Z_iret dX4_choose_33 rfl ?_
      exact ⟨rfl, rfl, rfl⟩
    · have := hN f (by omega) (by omega); omega
set_option maxRecDepth 20000 in
theorem zX4_restrict_1 {G : tl_G} {M : zM} {J : zJ} {h f v y : Int} (hN : noHr M) : ZN G yX4_restrict mX4_restrict 4 kAll [vR 31, vI h, vI f, vI v, vI y] F1 M J (qI (fun x M' J' => M' = M ∧ J' = J ∧ x = -1)) := by
  refine ZN_of (L := [_, _, _, _, _]) (by decide) rfl rfl (Nat.le_of_ble_eq_true rfl) rfl (fun hav => ?_)
  refine Z_aload_n (n := 1) dX4_restrict_0 rfl rfl ?_
  refine Z_iload_n (n := 2) dX4_restrict_1 rfl rfl ?_
  refine Z_iload_n (n := 3) dX4_restrict_2 rfl rfl ?_
  refine Z_iload_n (n := 4) dX4_restrict_3 rfl rfl ?_
  refine Z_callVi (n := 7) [_, _, _] _ dX4_restrict_4 rfl cwX4_226 rfl rfl rfl (Nat.le_of_ble_eq_true rfl) (by refine ⟨?_, ?_, ?_, ?_⟩ <;> exact Nat.le_of_ble_eq_true rfl) (fun _ h => h) (zX4_noHalf  ) ?_
  intro x4 M4 J4 z4 f4 q4
  obtain ⟨e4_1, e4_2, h4⟩ := q4
  replace e4_1 := e4_1.symm; subst e4_1
  replace e4_2 := e4_2.symm; subst e4_2
  refine Z_if_ge (n := 10) (t := 18) dX4_restrict_7 rfl (by decide) (fun c7 => ?_) (fun c7 => ?_)
  · have := hN f (by omega) (by omega); omega
  · refine Z_aload_n (n := 11) dX4_restrict_10 rfl rfl ?_
    refine Z_iload_n (n := 12) dX4_restrict_11 rfl rfl ?_
    refine Z_iload_n (n := 13) dX4_restrict_12 rfl rfl ?_
    refine Z_iload_n (n := 14) dX4_restrict_13 rfl rfl ?_
    refine Z_callVi (n := 17) [_, _, _] _ dX4_restrict_14 rfl cwX4_226 rfl rfl rfl (Nat.le_of_ble_eq_true rfl) (by refine ⟨?_, ?_, ?_, ?_⟩ <;> exact Nat.le_of_ble_eq_true rfl) (fun _ h => h) (zX4_noHalf  ) ?_
    intro x14 M14 J14 z14 f14 q14
    obtain ⟨e14_1, e14_2, h14⟩ := q14
    replace e14_1 := e14_1.symm; subst e14_1
    replace e14_2 := e14_2.symm; subst e14_2
    refine Z_iret dX4_restrict_17 rfl ?_
    refine ⟨rfl, rfl, ?_⟩
    rcases h14 with ⟨-, q⟩ | ⟨-, -, q0, q1, q2, -⟩
    · exact q
    · exact absurd (hN f q0 q1) q2
set_option maxRecDepth 20000 in
theorem zX4_quantify_1 {G : tl_G} {M : zM} {J : zJ} {h f v y : Int} (hN : noHr M) : ZN G yX4_quantify mX4_quantify 4 kAll [vR 31, vI h, vI f, vI v, vI y] F1 M J (qI (fun x M' J' => M' = M ∧ J' = J ∧ x = -1)) := by
  refine ZN_of (L := [_, _, _, _, _, _]) (by decide) rfl rfl (Nat.le_of_ble_eq_true rfl) rfl (fun hav => ?_)
  refine Z_aload_n (n := 1) dX4_quantify_0 rfl rfl ?_
  refine Z_iload_n (n := 2) dX4_quantify_1 rfl rfl ?_
  refine Z_iload_n (n := 3) dX4_quantify_2 rfl rfl ?_
  refine Z_iload_n (n := 4) dX4_quantify_3 rfl rfl ?_
  refine Z_callVi (n := 7) [_, _, _] _ dX4_quantify_4 rfl cwX4_226 rfl rfl rfl (Nat.le_of_ble_eq_true rfl) (by refine ⟨?_, ?_, ?_, ?_⟩ <;> exact Nat.le_of_ble_eq_true rfl) (fun _ h => h) (zX4_noHalf  ) ?_
  intro x4 M4 J4 z4 f4 q4
  obtain ⟨e4_1, e4_2, h4⟩ := q4
  replace e4_1 := e4_1.symm; subst e4_1
  replace e4_2 := e4_2.symm; subst e4_2
  refine Z_if_ge (n := 10) (t := 18) dX4_quantify_7 rfl (by decide) (fun c7 => ?_) (fun c7 => ?_)
  · have := hN f (by omega) (by omega); omega
  · refine Z_aload_n (n := 11) dX4_quantify_10 rfl rfl ?_
    refine Z_iload_n (n := 12) dX4_quantify_11 rfl rfl ?_
    refine Z_iload_n (n := 13) dX4_quantify_12 rfl rfl ?_
    refine Z_iload_n (n := 14) dX4_quantify_13 rfl rfl ?_
    refine Z_callVi (n := 17) [_, _, _] _ dX4_quantify_14 rfl cwX4_226 rfl rfl rfl (Nat.le_of_ble_eq_true rfl) (by refine ⟨?_, ?_, ?_, ?_⟩ <;> exact Nat.le_of_ble_eq_true rfl) (fun _ h => h) (zX4_noHalf  ) ?_
    intro x14 M14 J14 z14 f14 q14
    obtain ⟨e14_1, e14_2, h14⟩ := q14
    replace e14_1 := e14_1.symm; subst e14_1
    replace e14_2 := e14_2.symm; subst e14_2
    refine Z_iret dX4_quantify_17 rfl ?_
    refine ⟨rfl, rfl, ?_⟩
    rcases h14 with ⟨-, q⟩ | ⟨-, -, q0, q1, q2, -⟩
    · exact q
    · exact absurd (hN f q0 q1) q2
set_option maxRecDepth 20000 in
theorem zX4_compose_1 {G : tl_G} {M : zM} {J : zJ} {h f v g : Int} (hN : noHr M) : ZN G yX4_compose mX4_compose 4 kAll [vR 31, vI h, vI f, vI v, vI g] F1 M J (qI (fun x M' J' => M' = M ∧ J' = J ∧ x = -1)) := by
  refine ZN_of (L := [_, _, _, _, _, _]) (by decide) rfl rfl (Nat.le_of_ble_eq_true rfl) rfl (fun hav => ?_)
  refine Z_aload_n (n := 1) dX4_compose_0 rfl rfl ?_
  refine Z_iload_n (n := 2) dX4_compose_1 rfl rfl ?_
  refine Z_iload_n (n := 3) dX4_compose_2 rfl rfl ?_
  refine Z_iload_n (n := 4) dX4_compose_3 rfl rfl ?_
  refine Z_callVi (n := 7) [_, _, _] _ dX4_compose_4 rfl cwX4_226 rfl rfl rfl (Nat.le_of_ble_eq_true rfl) (by refine ⟨?_, ?_, ?_, ?_⟩ <;> exact Nat.le_of_ble_eq_true rfl) (fun _ h => h) (zX4_noHalf  ) ?_
  intro x4 M4 J4 z4 f4 q4
  obtain ⟨e4_1, e4_2, h4⟩ := q4
  replace e4_1 := e4_1.symm; subst e4_1
  replace e4_2 := e4_2.symm; subst e4_2
  refine Z_iconst (n := 8) dX4_compose_7 rfl (by decide) ?_
  refine Z_icmp_eq (n := 11) (t := 20) dX4_compose_8 rfl (by decide) (fun c8 => ?_) (fun c8 => ?_)
  · refine Z_iconst (n := 21) dX4_compose_20 rfl (by decide) ?_
    refine Z_iret dX4_compose_21 rfl ?_
    exact ⟨rfl, rfl, rfl⟩
  · have := hN f (by omega) (by omega); omega
set_option maxRecDepth 20000 in
theorem zX4_share_1 {G : tl_G} {M : zM} {J : zJ} {h f : Int} (hN : noHr M) : ZN G yX4_share mX4_share 4 kAll [vR 31, vI h, vI f] F1 M J (qI (fun x M' J' => M' = M ∧ J' = J ∧ x = -1)) := by
  refine ZN_of (L := [_, _, _]) (by decide) rfl rfl (Nat.le_of_ble_eq_true rfl) rfl (fun hav => ?_)
  refine Z_iload_n (n := 1) dX4_share_0 rfl rfl ?_
  refine Z_callSi (n := 4) [_] _ dX4_share_1 rfl cwX4_210 rfl rfl (Nat.le_of_ble_eq_true rfl) (by refine ⟨?_, ?_, ?_, ?_⟩ <;> exact Nat.le_of_ble_eq_true rfl) (fun _ h => h) (zX4_isHandle  ) ?_
  intro x1 M1 J1 z1 f1 q1
  obtain ⟨e1_1, e1_2, h1⟩ := q1
  replace e1_1 := e1_1.symm; subst e1_1
  replace e1_2 := e1_2.symm; subst e1_2
  refine Z_if_eq (n := 7) (t := 15) dX4_share_4 rfl (by decide) (fun c4 => ?_) (fun c4 => ?_)
  · refine Z_iconst (n := 16) dX4_share_15 rfl (by decide) ?_
    refine Z_iret dX4_share_16 rfl ?_
    exact ⟨rfl, rfl, rfl⟩
  · refine Z_aload_n (n := 8) dX4_share_7 rfl rfl ?_
    refine Z_iload_n (n := 9) dX4_share_8 rfl rfl ?_
    refine Z_callVi (n := 12) [_] _ dX4_share_9 rfl cwX4_223 rfl rfl rfl (Nat.le_of_ble_eq_true rfl) (by refine ⟨?_, ?_, ?_, ?_⟩ <;> exact Nat.le_of_ble_eq_true rfl) (fun _ h => h) (zX4_isFunction  ) ?_
    intro x9 M9 J9 z9 f9 q9
    obtain ⟨e9_1, e9_2, h9⟩ := q9
    replace e9_1 := e9_1.symm; subst e9_1
    replace e9_2 := e9_2.symm; subst e9_2
    refine Z_if_ne (n := 15) (t := 17) dX4_share_12 rfl (by decide) (fun c12 => ?_) (fun c12 => ?_)
    · have := hN f (by omega) (by omega); omega
    · refine Z_iconst (n := 16) dX4_share_15 rfl (by decide) ?_
      refine Z_iret dX4_share_16 rfl ?_
      exact ⟨rfl, rfl, rfl⟩
set_option maxRecDepth 20000 in
theorem zX4_nodes_1 {G : tl_G} {M : zM} {J : zJ} {f : Int} (hN : noHr M) : ZN G yX4_nodes mX4_nodes 4 kAll [vR 31, vI f] F1 M J (qI (fun x M' J' => M' = M ∧ J' = J ∧ x = -1)) := by
  refine ZN_of (L := [_, _]) (by decide) rfl rfl (Nat.le_of_ble_eq_true rfl) rfl (fun hav => ?_)
  refine Z_aload_n (n := 1) dX4_nodes_0 rfl rfl ?_
  refine Z_iload_n (n := 2) dX4_nodes_1 rfl rfl ?_
  refine Z_callVi (n := 5) [_] _ dX4_nodes_2 rfl cwX4_223 rfl rfl rfl (Nat.le_of_ble_eq_true rfl) (by refine ⟨?_, ?_, ?_, ?_⟩ <;> exact Nat.le_of_ble_eq_true rfl) (fun _ h => h) (zX4_isFunction  ) ?_
  intro x2 M2 J2 z2 f2 q2
  obtain ⟨e2_1, e2_2, h2⟩ := q2
  replace e2_1 := e2_1.symm; subst e2_1
  replace e2_2 := e2_2.symm; subst e2_2
  refine Z_if_eq (n := 8) (t := 17) dX4_nodes_5 rfl (by decide) (fun c5 => ?_) (fun c5 => ?_)
  · refine Z_iconst (n := 18) dX4_nodes_17 rfl (by decide) ?_
    refine Z_iret dX4_nodes_18 rfl ?_
    exact ⟨rfl, rfl, rfl⟩
  · have := hN f (by omega) (by omega); omega
set_option maxRecDepth 20000 in
theorem zX4_common_1 {G : tl_G} {M : zM} {J : zJ} {f g : Int} (hN : noHr M) : ZN G yX4_common mX4_common 4 kAll [vR 31, vI f, vI g] F1 M J (qI (fun x M' J' => M' = M ∧ J' = J ∧ x = -1)) := by
  refine ZN_of (L := [_, _, _, _, _, _]) (by decide) rfl rfl (Nat.le_of_ble_eq_true rfl) rfl (fun hav => ?_)
  refine Z_aload_n (n := 1) dX4_common_0 rfl rfl ?_
  refine Z_iload_n (n := 2) dX4_common_1 rfl rfl ?_
  refine Z_callVi (n := 5) [_] _ dX4_common_2 rfl cwX4_223 rfl rfl rfl (Nat.le_of_ble_eq_true rfl) (by refine ⟨?_, ?_, ?_, ?_⟩ <;> exact Nat.le_of_ble_eq_true rfl) (fun _ h => h) (zX4_isFunction  ) ?_
  intro x2 M2 J2 z2 f2 q2
  obtain ⟨e2_1, e2_2, h2⟩ := q2
  replace e2_1 := e2_1.symm; subst e2_1
  replace e2_2 := e2_2.symm; subst e2_2
  refine Z_if_eq (n := 8) (t := 16) dX4_common_5 rfl (by decide) (fun c5 => ?_) (fun c5 => ?_)
  · refine Z_iconst (n := 17) dX4_common_16 rfl (by decide) ?_
    refine Z_iret dX4_common_17 rfl ?_
    exact ⟨rfl, rfl, rfl⟩
  · have := hN f (by omega) (by omega); omega
set_option maxRecDepth 20000 in
theorem zX4_same_1 {G : tl_G} {M : zM} {J : zJ} {f g : Int} (hN : noHr M) : ZN G yX4_same mX4_same 4 kAll [vR 31, vI f, vI g] F1 M J (qI (fun x M' J' => M' = M ∧ J' = J ∧ x = -1)) := by
  refine ZN_of (L := [_, _, _, _, _]) (by decide) rfl rfl (Nat.le_of_ble_eq_true rfl) rfl (fun hav => ?_)
  refine Z_aload_n (n := 1) dX4_same_0 rfl rfl ?_
  refine Z_iload_n (n := 2) dX4_same_1 rfl rfl ?_
  refine Z_callVi (n := 5) [_] _ dX4_same_2 rfl cwX4_223 rfl rfl rfl (Nat.le_of_ble_eq_true rfl) (by refine ⟨?_, ?_, ?_, ?_⟩ <;> exact Nat.le_of_ble_eq_true rfl) (fun _ h => h) (zX4_isFunction  ) ?_
  intro x2 M2 J2 z2 f2 q2
  obtain ⟨e2_1, e2_2, h2⟩ := q2
  replace e2_1 := e2_1.symm; subst e2_1
  replace e2_2 := e2_2.symm; subst e2_2
  refine Z_if_eq (n := 8) (t := 16) dX4_same_5 rfl (by decide) (fun c5 => ?_) (fun c5 => ?_)
  · refine Z_iconst (n := 17) dX4_same_16 rfl (by decide) ?_
    refine Z_iret dX4_same_17 rfl ?_
    exact ⟨rfl, rfl, rfl⟩
  · have := hN f (by omega) (by omega); omega
set_option maxRecDepth 20000 in
theorem zX4_value_1 {G : tl_G} {M : zM} {J : zJ} {f a : Int} (hN : noHr M) : ZN G yX4_value mX4_value 4 kAll [vR 31, vI f, vI a] F1 M J (qI (fun x M' J' => M' = M ∧ J' = J ∧ x = -1)) := by
  refine ZN_of (L := [_, _, _]) (by decide) rfl rfl (Nat.le_of_ble_eq_true rfl) rfl (fun hav => ?_)
  refine Z_aload_n (n := 1) dX4_value_0 rfl rfl ?_
  refine Z_iload_n (n := 2) dX4_value_1 rfl rfl ?_
  refine Z_callVi (n := 5) [_] _ dX4_value_2 rfl cwX4_223 rfl rfl rfl (Nat.le_of_ble_eq_true rfl) (by refine ⟨?_, ?_, ?_, ?_⟩ <;> exact Nat.le_of_ble_eq_true rfl) (fun _ h => h) (zX4_isFunction  ) ?_
  intro x2 M2 J2 z2 f2 q2
  obtain ⟨e2_1, e2_2, h2⟩ := q2
  replace e2_1 := e2_1.symm; subst e2_1
  replace e2_2 := e2_2.symm; subst e2_2
  refine Z_if_ne (n := 8) (t := 10) dX4_value_5 rfl (by decide) (fun c5 => ?_) (fun c5 => ?_)
  · have := hN f (by omega) (by omega); omega
  · refine Z_iconst (n := 9) dX4_value_8 rfl (by decide) ?_
    refine Z_iret dX4_value_9 rfl ?_
    exact ⟨rfl, rfl, rfl⟩
set_option maxRecDepth 20000 in
theorem zX4_count_1 {G : tl_G} {M : zM} {J : zJ} {f : Int} (hN : noHr M) : ZN G yX4_count mX4_count 4 kAll [vR 31, vI f] F1 M J (qI (fun x M' J' => M' = M ∧ J' = J ∧ x = -1)) := by
  refine ZN_of (L := [_, _, _, _]) (by decide) rfl rfl (Nat.le_of_ble_eq_true rfl) rfl (fun hav => ?_)
  refine Z_aload_n (n := 1) dX4_count_0 rfl rfl ?_
  refine Z_iload_n (n := 2) dX4_count_1 rfl rfl ?_
  refine Z_callVi (n := 5) [_] _ dX4_count_2 rfl cwX4_223 rfl rfl rfl (Nat.le_of_ble_eq_true rfl) (by refine ⟨?_, ?_, ?_, ?_⟩ <;> exact Nat.le_of_ble_eq_true rfl) (fun _ h => h) (zX4_isFunction  ) ?_
  intro x2 M2 J2 z2 f2 q2
  obtain ⟨e2_1, e2_2, h2⟩ := q2
  replace e2_1 := e2_1.symm; subst e2_1
  replace e2_2 := e2_2.symm; subst e2_2
  refine Z_if_ne (n := 8) (t := 10) dX4_count_5 rfl (by decide) (fun c5 => ?_) (fun c5 => ?_)
  · have := hN f (by omega) (by omega); omega
  · refine Z_iconst (n := 9) dX4_count_8 rfl (by decide) ?_
    refine Z_iret dX4_count_9 rfl ?_
    exact ⟨rfl, rfl, rfl⟩
set_option maxRecDepth 20000 in
theorem zX4_support_1 {G : tl_G} {M : zM} {J : zJ} {f : Int} (hN : noHr M) : ZN G yX4_support mX4_support 4 kAll [vR 31, vI f] F1 M J (qI (fun x M' J' => M' = M ∧ J' = J ∧ x = -1)) := by
  refine ZN_of (L := [_, _, _, _]) (by decide) rfl rfl (Nat.le_of_ble_eq_true rfl) rfl (fun hav => ?_)
  refine Z_aload_n (n := 1) dX4_support_0 rfl rfl ?_
  refine Z_iload_n (n := 2) dX4_support_1 rfl rfl ?_
  refine Z_callVi (n := 5) [_] _ dX4_support_2 rfl cwX4_223 rfl rfl rfl (Nat.le_of_ble_eq_true rfl) (by refine ⟨?_, ?_, ?_, ?_⟩ <;> exact Nat.le_of_ble_eq_true rfl) (fun _ h => h) (zX4_isFunction  ) ?_
  intro x2 M2 J2 z2 f2 q2
  obtain ⟨e2_1, e2_2, h2⟩ := q2
  replace e2_1 := e2_1.symm; subst e2_1
  replace e2_2 := e2_2.symm; subst e2_2
  refine Z_if_ne (n := 8) (t := 10) dX4_support_5 rfl (by decide) (fun c5 => ?_) (fun c5 => ?_)
  · have := hN f (by omega) (by omega); omega
  · refine Z_iconst (n := 9) dX4_support_8 rfl (by decide) ?_
    refine Z_iret dX4_support_9 rfl ?_
    exact ⟨rfl, rfl, rfl⟩
set_option maxRecDepth 20000 in
theorem zX4_top_1 {G : tl_G} {M : zM} {J : zJ} {f : Int} (hN : noHr M) : ZN G yX4_top mX4_top 4 kAll [vR 31, vI f] F1 M J (qI (fun x M' J' => M' = M ∧ J' = J ∧ x = -1)) := by
  refine ZN_of (L := [_, _, _]) (by decide) rfl rfl (Nat.le_of_ble_eq_true rfl) rfl (fun hav => ?_)
  refine Z_aload_n (n := 1) dX4_top_0 rfl rfl ?_
  refine Z_iload_n (n := 2) dX4_top_1 rfl rfl ?_
  refine Z_callVi (n := 5) [_] _ dX4_top_2 rfl cwX4_223 rfl rfl rfl (Nat.le_of_ble_eq_true rfl) (by refine ⟨?_, ?_, ?_, ?_⟩ <;> exact Nat.le_of_ble_eq_true rfl) (fun _ h => h) (zX4_isFunction  ) ?_
  intro x2 M2 J2 z2 f2 q2
  obtain ⟨e2_1, e2_2, h2⟩ := q2
  replace e2_1 := e2_1.symm; subst e2_1
  replace e2_2 := e2_2.symm; subst e2_2
  refine Z_if_ne (n := 8) (t := 10) dX4_top_5 rfl (by decide) (fun c5 => ?_) (fun c5 => ?_)
  · have := hN f (by omega) (by omega); omega
  · refine Z_iconst (n := 9) dX4_top_8 rfl (by decide) ?_
    refine Z_iret dX4_top_9 rfl ?_
    exact ⟨rfl, rfl, rfl⟩
set_option maxRecDepth 20000 in
theorem zX4_level_1 {G : tl_G} {M : zM} {J : zJ} {f v : Int} (hN : noHr M) : ZN G yX4_level mX4_level 4 kAll [vR 31, vI f, vI v] F1 M J (qI (fun x M' J' => M' = M ∧ J' = J ∧ x = -1)) := by
  refine ZN_of (L := [_, _, _, _, _]) (by decide) rfl rfl (Nat.le_of_ble_eq_true rfl) rfl (fun hav => ?_)
  refine Z_aload_n (n := 1) dX4_level_0 rfl rfl ?_
  refine Z_iload_n (n := 2) dX4_level_1 rfl rfl ?_
  refine Z_callVi (n := 5) [_] _ dX4_level_2 rfl cwX4_223 rfl rfl rfl (Nat.le_of_ble_eq_true rfl) (by refine ⟨?_, ?_, ?_, ?_⟩ <;> exact Nat.le_of_ble_eq_true rfl) (fun _ h => h) (zX4_isFunction  ) ?_
  intro x2 M2 J2 z2 f2 q2
  obtain ⟨e2_1, e2_2, h2⟩ := q2
  replace e2_1 := e2_1.symm; subst e2_1
  replace e2_2 := e2_2.symm; subst e2_2
  refine Z_if_ne (n := 8) (t := 10) dX4_level_5 rfl (by decide) (fun c5 => ?_) (fun c5 => ?_)
  · have := hN f (by omega) (by omega); omega
  · refine Z_iconst (n := 9) dX4_level_8 rfl (by decide) ?_
    refine Z_iret dX4_level_9 rfl ?_
    exact ⟨rfl, rfl, rfl⟩
set_option maxRecDepth 20000 in
theorem zX4_least_1 {G : tl_G} {M : zM} {J : zJ} {f y : Int} (hN : noHr M) : ZN G yX4_least mX4_least 4 kAll [vR 31, vI f, vI y] F1 M J (qI (fun x M' J' => M' = M ∧ J' = J ∧ x = -1)) := by
  refine ZN_of (L := [_, _, _, _]) (by decide) rfl rfl (Nat.le_of_ble_eq_true rfl) rfl (fun hav => ?_)
  refine Z_aload_n (n := 1) dX4_least_0 rfl rfl ?_
  refine Z_iload_n (n := 2) dX4_least_1 rfl rfl ?_
  refine Z_callVi (n := 5) [_] _ dX4_least_2 rfl cwX4_223 rfl rfl rfl (Nat.le_of_ble_eq_true rfl) (by refine ⟨?_, ?_, ?_, ?_⟩ <;> exact Nat.le_of_ble_eq_true rfl) (fun _ h => h) (zX4_isFunction  ) ?_
  intro x2 M2 J2 z2 f2 q2
  obtain ⟨e2_1, e2_2, h2⟩ := q2
  replace e2_1 := e2_1.symm; subst e2_1
  replace e2_2 := e2_2.symm; subst e2_2
  refine Z_if_ne (n := 8) (t := 10) dX4_least_5 rfl (by decide) (fun c5 => ?_) (fun c5 => ?_)
  · have := hN f (by omega) (by omega); omega
  · refine Z_iconst (n := 9) dX4_least_8 rfl (by decide) ?_
    refine Z_iret dX4_least_9 rfl ?_
    exact ⟨rfl, rfl, rfl⟩
set_option maxRecDepth 20000 in
theorem zX4_paths_1 {G : tl_G} {M : zM} {J : zJ} {f y : Int} (hN : noHr M) : ZN G yX4_paths mX4_paths 4 kAll [vR 31, vI f, vI y] F1 M J (qI (fun x M' J' => M' = M ∧ J' = J ∧ x = -1)) := by
  refine ZN_of (L := [_, _, _, _, _]) (by decide) rfl rfl (Nat.le_of_ble_eq_true rfl) rfl (fun hav => ?_)
  refine Z_aload_n (n := 1) dX4_paths_0 rfl rfl ?_
  refine Z_iload_n (n := 2) dX4_paths_1 rfl rfl ?_
  refine Z_callVi (n := 5) [_] _ dX4_paths_2 rfl cwX4_223 rfl rfl rfl (Nat.le_of_ble_eq_true rfl) (by refine ⟨?_, ?_, ?_, ?_⟩ <;> exact Nat.le_of_ble_eq_true rfl) (fun _ h => h) (zX4_isFunction  ) ?_
  intro x2 M2 J2 z2 f2 q2
  obtain ⟨e2_1, e2_2, h2⟩ := q2
  replace e2_1 := e2_1.symm; subst e2_1
  replace e2_2 := e2_2.symm; subst e2_2
  refine Z_if_ne (n := 8) (t := 10) dX4_paths_5 rfl (by decide) (fun c5 => ?_) (fun c5 => ?_)
  · have := hN f (by omega) (by omega); omega
  · refine Z_iconst (n := 9) dX4_paths_8 rfl (by decide) ?_
    refine Z_iret dX4_paths_9 rfl ?_
    exact ⟨rfl, rfl, rfl⟩
set_option maxRecDepth 20000 in
theorem zX4_equal_1 {G : tl_G} {M : zM} {J : zJ} {net oth : Int} (hN : noOutR M) : ZN G yX4_equal mX4_equal 3 kAll [vR 31, vI net, vI oth] F1 M J (qI (fun x M' J' => M' = M ∧ J' = J ∧ (((net < 0 ∨ 3 ≤ net ∨ oth < 0 ∨ 3 ≤ oth) ∧ x = -1) ∨ (0 ≤ net ∧ net < 3 ∧ 0 ≤ oth ∧ oth < 3 ∧ x = 1)))) := by
  refine ZN_of (L := [_, _, _, _, _, _, _, _]) (by decide) rfl rfl (Nat.le_of_ble_eq_true rfl) rfl (fun hav => ?_)
  refine Z_iload_n (n := 1) dX4_equal_0 rfl rfl ?_
  refine Z_callSi (n := 4) [_] _ dX4_equal_1 rfl cwX4_116 rfl rfl (Nat.le_of_ble_eq_true rfl) (by refine ⟨?_, ?_, ?_, ?_⟩ <;> exact Nat.le_of_ble_eq_true rfl) (fun _ h => h) (zX4_isNet  ) ?_
  intro x1 M1 J1 z1 f1 q1
  obtain ⟨e1_1, e1_2, h1⟩ := q1
  replace e1_1 := e1_1.symm; subst e1_1
  replace e1_2 := e1_2.symm; subst e1_2
  refine Z_if_eq (n := 7) (t := 14) dX4_equal_4 rfl (by decide) (fun c4 => ?_) (fun c4 => ?_)
  · refine Z_iconst (n := 15) dX4_equal_14 rfl (by decide) ?_
    refine Z_iret dX4_equal_15 rfl ?_
    refine ⟨rfl, rfl, ?_⟩; omega
  · refine Z_iload_n (n := 8) dX4_equal_7 rfl rfl ?_
    refine Z_callSi (n := 11) [_] _ dX4_equal_8 rfl cwX4_116 rfl rfl (Nat.le_of_ble_eq_true rfl) (by refine ⟨?_, ?_, ?_, ?_⟩ <;> exact Nat.le_of_ble_eq_true rfl) (fun _ h => h) (zX4_isNet  ) ?_
    intro x8 M8 J8 z8 f8 q8
    obtain ⟨e8_1, e8_2, h8⟩ := q8
    replace e8_1 := e8_1.symm; subst e8_1
    replace e8_2 := e8_2.symm; subst e8_2
    refine Z_if_ne (n := 14) (t := 16) dX4_equal_11 rfl (by decide) (fun c11 => ?_) (fun c11 => ?_)
    · refine Z_aload_n (n := 17) dX4_equal_16 rfl rfl ?_
      refine Z_getA (n := 20) dX4_equal_17 rfl ffX4_13 rfl rfl ?_
      refine Z_iload_n (n := 21) dX4_equal_20 rfl rfl ?_
      refine Z_iald (n := 22) dX4_equal_21 rfl rfl rfl (by first | decide | assumption) (by omega) (by omega) (fun r21 s21 => ?_)
      refine Z_aload_n (n := 23) dX4_equal_22 rfl rfl ?_
      refine Z_getA (n := 26) dX4_equal_23 rfl ffX4_13 rfl rfl ?_
      refine Z_iload_n (n := 27) dX4_equal_26 rfl rfl ?_
      refine Z_iald (n := 28) dX4_equal_27 rfl rfl rfl (by first | decide | assumption) (by omega) (by omega) (fun r27 s27 => ?_)
      refine Z_icmp_eq (n := 31) (t := 34) dX4_equal_28 rfl (by decide) (fun c28 => ?_) (fun c28 => ?_)
      · refine Z_aload_n (n := 35) dX4_equal_34 rfl rfl ?_
        refine Z_getA (n := 38) dX4_equal_35 rfl ffX4_13 rfl rfl ?_
        refine Z_iload_n (n := 39) dX4_equal_38 rfl rfl ?_
        refine Z_iald (n := 40) dX4_equal_39 rfl rfl rfl (by first | decide | assumption) (by omega) (by omega) (fun r39 s39 => ?_)
        refine Z_if_le (n := 43) (t := 47) dX4_equal_40 rfl (by decide) (fun c40 => ?_) (fun c40 => ?_)
        · refine Z_iconst (n := 48) dX4_equal_47 rfl (by decide) ?_
          refine Z_istore_n (L' := [_, _, _, _, _, _, _, _]) (n := 49) dX4_equal_48 rfl (by decide) rfl rfl ?_
          refine Z_iload_n (n := 50) dX4_equal_49 rfl rfl ?_
          refine Z_aload_n (n := 51) dX4_equal_50 rfl rfl ?_
          refine Z_getA (n := 54) dX4_equal_51 rfl ffX4_13 rfl rfl ?_
          refine Z_iload_n (n := 55) dX4_equal_54 rfl rfl ?_
          refine Z_iald (n := 56) dX4_equal_55 rfl rfl rfl (by first | decide | assumption) (by omega) (by omega) (fun r55 s55 => ?_)
          refine Z_icmp_ge (n := 59) (t := 212) dX4_equal_56 rfl (by decide) (fun c56 => ?_) (fun c56 => ?_)
          · refine Z_iconst (n := 213) dX4_equal_212 rfl (by decide) ?_
            refine Z_iret dX4_equal_213 rfl ?_
            refine ⟨rfl, rfl, ?_⟩; omega
          · have := hN net (by omega) (by omega); omega
        · have := hN net (by omega) (by omega); omega
      · have := hN net (by omega) (by omega); have := hN oth (by omega) (by omega); omega
    · refine Z_iconst (n := 15) dX4_equal_14 rfl (by decide) ?_
      refine Z_iret dX4_equal_15 rfl ?_
      refine ⟨rfl, rfl, ?_⟩; omega
set_option maxRecDepth 20000 in
theorem zX4_order_1 {G : tl_G} {M : zM} {J : zJ} {net : Int} (hN : noHr M) (hO : noOutR M) : ZN G yX4_order mX4_order 3 kF [vR 31, vI net] F1 M J (qI (fun x M' J' => (((net < 0 ∨ 3 ≤ net) ∧ x = -1) ∨ (0 ≤ net ∧ net < 3 ∧ x = 0)))) := by
  refine ZN_of (L := [_, _, _, _, _]) (by decide) rfl rfl (Nat.le_of_ble_eq_true rfl) rfl (fun hav => ?_)
  refine Z_iload_n (n := 1) dX4_order_0 rfl rfl ?_
  refine Z_callSi (n := 4) [_] _ dX4_order_1 rfl cwX4_116 rfl rfl (Nat.le_of_ble_eq_true rfl) (by refine ⟨?_, ?_, ?_, ?_⟩ <;> exact Nat.le_of_ble_eq_true rfl) (fun _ _ => trivial) (zX4_isNet  ) ?_
  intro x1 M1 J1 z1 f1 q1
  obtain ⟨e1_1, e1_2, h1⟩ := q1
  replace e1_1 := e1_1.symm; subst e1_1
  replace e1_2 := e1_2.symm; subst e1_2
  refine Z_if_ne (n := 7) (t := 9) dX4_order_4 rfl (by decide) (fun c4 => ?_) (fun c4 => ?_)
  · refine Z_aload_n (n := 10) dX4_order_9 rfl rfl ?_
    refine Z_callVi (n := 13) [] _ dX4_order_10 rfl cwX4_141 rfl rfl rfl (Nat.le_of_ble_eq_true rfl) (by refine ⟨?_, ?_, ?_, ?_⟩ <;> exact Nat.le_of_ble_eq_true rfl) (fun _ _ => trivial) (zX4_isEmpty  ) ?_
    intro x10 M10 J10 z10 f10 q10
    obtain ⟨e10_1, e10_2, h10⟩ := q10
    replace e10_1 := e10_1.symm; subst e10_1
    replace e10_2 := e10_2.symm; subst e10_2
    refine Z_if_ne (n := 16) (t := 19) dX4_order_13 rfl (by decide) (fun c13 => ?_) (fun c13 => ?_)
    · refine Z_aload_n (n := 20) dX4_order_19 rfl rfl ?_
      refine Z_iconst (n := 21) dX4_order_20 rfl (by decide) ?_
      refine Z_putI (n := 24) (ki := 13) dX4_order_21 rfl ffX4_138 rfl (by decide) rfl rfl (by first | assumption | omega | decide) (by first | assumption | omega | decide) (by exact fun h => h) ?_
      refine Z_aload_n (n := 25) dX4_order_24 rfl rfl ?_
      refine Z_iconst (n := 26) dX4_order_25 rfl (by decide) ?_
      refine Z_putI (n := 29) (ki := 12) dX4_order_26 rfl ffX4_135 rfl (by decide) rfl rfl (by first | assumption | omega | decide) (by first | assumption | omega | decide) (by exact fun h => h) ?_
      refine Z_iconst (n := 30) dX4_order_29 rfl (by decide) ?_
      refine Z_istore_n (L' := [_, _, _, _, _]) (n := 31) dX4_order_30 rfl (by decide) rfl rfl ?_
      have lp31 : ∀ (N31 : Nat) (k : Int) (M31 : zM) (J31 : zJ), ((40 - k).toNat) < N31 → (0 ≤ k) → (k ≤ 40) → (noOutR M31) → (M31 31 13 = 0) → TZ G mX4_order (tl_rm 3 0 0) 0 0 kF M J 31 [some (vR 31), some (vI net), some (vI k), none, none] [] F1 M31 J31 (ZM G (zPost G kF F1 M J (qI (fun x M' J' => (((net < 0 ∨ 3 ≤ net) ∧ x = -1) ∨ (0 ≤ net ∧ net < 3 ∧ x = 0))))) 0 0) := by
        intro N31
        induction N31 with
        | zero => intro k M31 J31 hN; omega
        | succ N31 ih31 =>
          intro k M31 J31 hN31 i31_0 i31_1 i31_2 i31_3
          refine Z_iload_n (n := 32) dX4_order_31 rfl rfl ?_
          refine Z_bipush (n := 34) dX4_order_32 rfl (by decide) (by decide) ?_
          refine Z_icmp_ge (n := 37) (t := 50) dX4_order_34 rfl (by decide) (fun c34 => ?_) (fun c34 => ?_)
          · refine Z_iconst (n := 51) dX4_order_50 rfl (by decide) ?_
            refine Z_istore_n (L' := [_, _, _, _, _]) (n := 52) dX4_order_51 rfl (by decide) rfl rfl ?_
            have lp52 : ∀ (N52 : Nat) (k : Int) (M52 : zM) (J52 : zJ), ((8 - k).toNat) < N52 → (0 ≤ k) → (k ≤ 8) → (noOutR M52) → (M52 31 13 = 0) → TZ G mX4_order (tl_rm 3 0 0) 0 0 kF M J 52 [some (vR 31), some (vI net), some (vI k), none, none] [] F1 M52 J52 (ZM G (zPost G kF F1 M J (qI (fun x M' J' => (((net < 0 ∨ 3 ≤ net) ∧ x = -1) ∨ (0 ≤ net ∧ net < 3 ∧ x = 0))))) 0 0) := by
              intro N52
              induction N52 with
              | zero => intro k M52 J52 hN; omega
              | succ N52 ih52 =>
                intro k M52 J52 hN52 i52_0 i52_1 i52_2 i52_3
                refine Z_iload_n (n := 53) dX4_order_52 rfl rfl ?_
                refine Z_bipush (n := 55) dX4_order_53 rfl (by decide) (by decide) ?_
                refine Z_icmp_ge (n := 58) (t := 71) dX4_order_55 rfl (by decide) (fun c55 => ?_) (fun c55 => ?_)
                · refine Z_iconst (n := 72) dX4_order_71 rfl (by decide) ?_
                  refine Z_istore_n (L' := [_, _, _, _, _]) (n := 73) dX4_order_72 rfl (by decide) rfl rfl ?_
                  refine Z_iload_n (n := 74) dX4_order_73 rfl rfl ?_
                  refine Z_aload_n (n := 75) dX4_order_74 rfl rfl ?_
                  refine Z_getA (n := 78) dX4_order_75 rfl ffX4_13 rfl rfl ?_
                  refine Z_iload_n (n := 79) dX4_order_78 rfl rfl ?_
                  refine Z_iald (n := 80) dX4_order_79 rfl rfl rfl (by first | decide | assumption) (by omega) (by omega) (fun r79 s79 => ?_)
                  refine Z_icmp_ge (n := 83) (t := 202) dX4_order_80 rfl (by decide) (fun c80 => ?_) (fun c80 => ?_)
                  · refine Z_aload_n (n := 203) dX4_order_202 rfl rfl ?_
                    refine Z_getI (n := 206) (ki := 13) dX4_order_203 rfl ffX4_138 rfl rfl rfl (fun r203 s203 => ?_)
                    refine Z_istore_n (L' := [_, _, _, _, _]) (n := 207) dX4_order_206 rfl (by decide) rfl rfl ?_
                    refine Z_iconst (n := 208) dX4_order_207 rfl (by decide) ?_
                    refine Z_istore_n (L' := [_, _, _, _, _]) (n := 209) dX4_order_208 rfl (by decide) rfl rfl ?_
                    have lp209 : ∀ (N209 : Nat) (v : Int) (M209 : zM) (J209 : zJ), ((8 - v).toNat) < N209 → (0 ≤ v) → (v ≤ 8) → (M209 31 13 ≤ v) → TZ G mX4_order (tl_rm 3 0 0) 0 0 kF M J 209 [some (vR 31), some (vI net), some (vI (M52 31 13)), some (vI v), none] [] F1 M209 J209 (ZM G (zPost G kF F1 M J (qI (fun x M' J' => (((net < 0 ∨ 3 ≤ net) ∧ x = -1) ∨ (0 ≤ net ∧ net < 3 ∧ x = 0))))) 0 0) := by
                      intro N209
                      induction N209 with
                      | zero => intro v M209 J209 hN; omega
                      | succ N209 ih209 =>
                        intro v M209 J209 hN209 i209_0 i209_1 i209_2
                        refine Z_iload_n (n := 210) dX4_order_209 rfl rfl ?_
                        refine Z_bipush (n := 212) dX4_order_210 rfl (by decide) (by decide) ?_
                        refine Z_icmp_ge (n := 215) (t := 260) dX4_order_212 rfl (by decide) (fun c212 => ?_) (fun c212 => ?_)
                        · refine Z_iload_n (n := 261) dX4_order_260 rfl rfl ?_
                          refine Z_iret dX4_order_261 rfl ?_
                          omega
                        · refine Z_aload_n (n := 216) dX4_order_215 rfl rfl ?_
                          refine Z_getA (n := 219) dX4_order_216 rfl ffX4_32 rfl rfl ?_
                          refine Z_iload_n (n := 220) dX4_order_219 rfl rfl ?_
                          refine Z_iald (n := 221) dX4_order_220 rfl rfl rfl (by first | decide | assumption) (by omega) (by omega) (fun r220 s220 => ?_)
                          refine Z_if_ge (n := 224) (t := 254) dX4_order_221 rfl (by decide) (fun c221 => ?_) (fun c221 => ?_)
                          · refine Z_iinc (L' := [_, _, _, _, _]) (n := 257) dX4_order_254 rfl rfl (by decide) rfl rfl (by omega) rfl ?_
                            refine Z_goto (t := 209) dX4_order_257 (by decide) ?_
                            refine Z_loc (L' := [some _, some _, some _, some _, none]) (lsub_same (lsub_same (lsub_same (lsub_same (lsub_none lsub_nil))))) ?_
                            exact ih209 _ _ _ (by omega) (by first | assumption | omega | decide) (by first | assumption | omega | decide) (by first | (rw [uz_s]; omega) | (rw [i52_3]; decide) | omega)
                          · refine Z_aload_n (n := 225) dX4_order_224 rfl rfl ?_
                            refine Z_getA (n := 228) dX4_order_225 rfl ffX4_32 rfl rfl ?_
                            refine Z_iload_n (n := 229) dX4_order_228 rfl rfl ?_
                            refine Z_aload_n (n := 230) dX4_order_229 rfl rfl ?_
                            refine Z_getI (n := 233) (ki := 13) dX4_order_230 rfl ffX4_138 rfl rfl rfl (fun r230 s230 => ?_)
                            refine Z_iast (n := 234) dX4_order_233 rfl rfl rfl (by first | decide | assumption) (by omega) (by omega) (by first | assumption | omega | decide) (by first | assumption | omega | decide) (by exact fun h => h) ?_
                            refine Z_aload_n (n := 235) dX4_order_234 rfl rfl ?_
                            refine Z_getA (n := 238) dX4_order_235 rfl ffX4_29 rfl rfl ?_
                            refine Z_aload_n (n := 239) dX4_order_238 rfl rfl ?_
                            refine Z_getI (n := 242) (ki := 13) dX4_order_239 rfl ffX4_138 rfl rfl rfl (fun r239 s239 => ?_)
                            try simp only [uz_oo (show (31 : Nat) ≠ 39 by decide), uz_oo (show (31 : Nat) ≠ 38 by decide)] at r239 s239 ⊢
                            refine Z_iload_n (n := 243) dX4_order_242 rfl rfl ?_
                            refine Z_iast (n := 244) dX4_order_243 rfl rfl rfl (by first | decide | assumption) (by omega) (by omega) (by first | assumption | omega | decide) (by first | assumption | omega | decide) (by exact fun h => h) ?_
                            refine Z_aload_n (n := 245) dX4_order_244 rfl rfl ?_
                            refine Z_dup (n := 246) dX4_order_245 rfl rfl ?_
                            refine Z_getI (n := 249) (ki := 13) dX4_order_246 rfl ffX4_138 rfl rfl rfl (fun r246 s246 => ?_)
                            try simp only [uz_oo (show (31 : Nat) ≠ 39 by decide), uz_oo (show (31 : Nat) ≠ 38 by decide)] at r246 s246 ⊢
                            refine Z_iconst (n := 250) dX4_order_249 rfl (by decide) ?_
                            refine Z_iadd (n := 251) dX4_order_250 rfl (by omega) ?_
                            refine Z_putI (n := 254) (ki := 13) dX4_order_251 rfl ffX4_138 rfl (by decide) rfl rfl (by first | assumption | omega | decide) (by first | assumption | omega | decide) (by exact fun h => h) ?_
                            refine Z_iinc (L' := [_, _, _, _, _]) (n := 257) dX4_order_254 rfl rfl (by decide) rfl rfl (by omega) rfl ?_
                            refine Z_goto (t := 209) dX4_order_257 (by decide) ?_
                            refine Z_loc (L' := [some _, some _, some _, some _, none]) (lsub_same (lsub_same (lsub_same (lsub_same (lsub_none lsub_nil))))) ?_
                            exact ih209 _ _ _ (by omega) (by first | assumption | omega | decide) (by first | assumption | omega | decide) (by first | (rw [uz_s]; omega) | (rw [i52_3]; decide) | omega)
                    refine Z_loc (L' := [some _, some _, some _, some _, none]) (lsub_same (lsub_same (lsub_same (lsub_same (lsub_none lsub_nil))))) ?_
                    exact lp209 _ _ _ _ (Nat.lt_succ_self _) (by first | assumption | omega | decide) (by first | assumption | omega | decide) (by first | (rw [uz_s]; omega) | (rw [i52_3]; decide) | omega)
                  · have := i52_2 net (by omega) (by omega); omega
                · refine Z_aload_n (n := 59) dX4_order_58 rfl rfl ?_
                  refine Z_getA (n := 62) dX4_order_59 rfl ffX4_32 rfl rfl ?_
                  refine Z_iload_n (n := 63) dX4_order_62 rfl rfl ?_
                  refine Z_iconst (n := 64) dX4_order_63 rfl (by decide) ?_
                  refine Z_iast (n := 65) dX4_order_64 rfl rfl rfl (by first | decide | assumption) (by omega) (by omega) (by first | assumption | omega | decide) (by first | assumption | omega | decide) (by exact fun h => h) ?_
                  refine Z_iinc (L' := [_, _, _, _, _]) (n := 68) dX4_order_65 rfl rfl (by decide) rfl rfl (by omega) rfl ?_
                  refine Z_goto (t := 52) dX4_order_68 (by decide) ?_
                  refine Z_loc (L' := [some _, some _, some _, none, none]) (lsub_same (lsub_same (lsub_same (lsub_none (lsub_none lsub_nil))))) ?_
                  exact ih52 _ _ _ (by omega) (by first | assumption | omega | decide) (by first | assumption | omega | decide) (by first | exact i31_2 | (intro j j0 j1; rw [uz_oo (by decide)]; exact i52_2 j j0 j1)) (by first | exact i31_3 | (rw [uz_oo (by decide)]; exact i52_3))
            refine Z_loc (L' := [some _, some _, some _, none, none]) (lsub_same (lsub_same (lsub_same (lsub_none (lsub_none lsub_nil))))) ?_
            exact lp52 _ _ _ _ (Nat.lt_succ_self _) (by first | assumption | omega | decide) (by first | assumption | omega | decide) (by first | exact i31_2 | (intro j j0 j1; rw [uz_oo (by decide)]; exact i52_2 j j0 j1)) (by first | exact i31_3 | (rw [uz_oo (by decide)]; exact i52_3))
          · refine Z_aload_n (n := 38) dX4_order_37 rfl rfl ?_
            refine Z_getA (n := 41) dX4_order_38 rfl ffX4_35 rfl rfl ?_
            refine Z_iload_n (n := 42) dX4_order_41 rfl rfl ?_
            refine Z_iconst (n := 43) dX4_order_42 rfl (by decide) ?_
            refine Z_zast (n := 44) dX4_order_43 rfl rfl rfl (by first | decide | assumption) (by omega) (by omega) (by first | assumption | omega | decide) (by first | assumption | omega | decide) (by exact fun h => h) ?_
            refine Z_iinc (L' := [_, _, _, _, _]) (n := 47) dX4_order_44 rfl rfl (by decide) rfl rfl (by omega) rfl ?_
            refine Z_goto (t := 31) dX4_order_47 (by decide) ?_
            refine Z_loc (L' := [some _, some _, some _, none, none]) (lsub_same (lsub_same (lsub_same (lsub_none (lsub_none lsub_nil))))) ?_
            exact ih31 _ _ _ (by omega) (by first | assumption | omega | decide) (by first | assumption | omega | decide) (by first | (intro j j0 j1; rw [uz_oo (by decide)]; exact i31_2 j j0 j1) | (intro j j0 j1; rw [uz_oo (by decide), uz_oo (by decide)]; exact hO j j0 j1)) (by first | (rw [uz_n (by decide), uz_s]) | (rw [uz_oo (by decide)]; exact i31_3))
      refine Z_loc (L' := [some _, some _, some _, none, none]) (lsub_same (lsub_same (lsub_same (lsub_none (lsub_none lsub_nil))))) ?_
      exact lp31 _ _ _ _ (Nat.lt_succ_self _) (by first | assumption | omega | decide) (by first | assumption | omega | decide) (by first | (intro j j0 j1; rw [uz_oo (by decide)]; exact i31_2 j j0 j1) | (intro j j0 j1; rw [uz_oo (by decide), uz_oo (by decide)]; exact hO j j0 j1)) (by first | (rw [uz_n (by decide), uz_s]) | (rw [uz_oo (by decide)]; exact i31_3))
    · exact (by rcases h10 with ⟨q, -⟩ | ⟨-, q, q0, q1, q2⟩ <;> first | omega | exact absurd (hN q q0 q1) q2)
  · refine Z_iconst (n := 8) dX4_order_7 rfl (by decide) ?_
    refine Z_iret dX4_order_8 rfl ?_
    omega
