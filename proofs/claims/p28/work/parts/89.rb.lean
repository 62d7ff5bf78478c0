/-! ===== readers: their answers ===== -/
theorem zor_0 {x : Int} (h0 : 0 ≤ x) (h1 : x < 65536) : zor x 0 = x := by
  rw [zor_nat h0 (by omega) (Int.le_refl 0) (by decide)]
  show ((x.toNat ||| 0 : Nat) : Int) = x
  rw [Nat.or_zero]
  exact Int.toNat_of_nonneg h0
set_option maxRecDepth 20000 in
theorem zX3_nodes_f {G : tl_G} {M : zM} {J : zJ} {f : Int} (hb : CB M) : ZN G yX3_nodes mX3_nodes 11 kMarks [vR 0, vI f] F1 M J (qI (fun x M' J' => J' = J ∧ (((f < 0 ∨ 12 ≤ f ∨ M 12 f = -1) ∧ x = -1) ∨ (¬ (f < 0 ∨ 12 ≤ f ∨ M 12 f = -1) ∧ cnt (laid (den M (M 12 f))) x)))) := by
  refine ZN_of (L := [_, _]) (by decide) rfl rfl (Nat.le_of_ble_eq_true rfl) rfl (fun hav => ?_)
  obtain ⟨⟨Sb, hSb, hRb⟩, -⟩ := hb
  refine Z_aload_n (n := 1) dX3_nodes_0 rfl rfl ?_
  refine Z_iload_n (n := 2) dX3_nodes_1 rfl rfl ?_
  refine Z_callVi (n := 5) [_] _ dX3_nodes_2 rfl cwX3_139 rfl rfl (by first | rfl | exact nS0 (nA_at (by omega) (by omega))) (Nat.le_of_ble_eq_true rfl) (by refine ⟨?_, ?_, ?_, ?_⟩ <;> exact Nat.le_of_ble_eq_true rfl) (fun _ _ => trivial) (zX3_hasFunction  ) ?_
  intro x2 M2 J2 z2 f2 q2
  obtain ⟨e2_1, e2_2, h2⟩ := q2
  replace e2_1 := e2_1.symm; subst e2_1
  replace e2_2 := e2_2.symm; subst e2_2
  refine Z_if_ne (n := 8) (t := 10) dX3_nodes_5 rfl (by decide) (fun c5 => ?_) (fun c5 => ?_)
  · have okf : okN Sb (M 12 f) := (hRb _ (Or.inl ⟨f, ⟨by omega, by omega⟩, rfl⟩)).resolve_left (by omega)
    refine Z_aload_n (n := 11) dX3_nodes_10 rfl rfl ?_
    refine Z_getO (n := 14) dX3_nodes_11 rfl ffX3_25 (by first | rfl | exact nS0 (nA_at (by omega) (by omega))) (by first | rfl | exact nS0 (nA_at (by omega) (by omega))) ?_
    refine Z_aload_n (n := 15) dX3_nodes_14 rfl rfl ?_
    refine Z_getA (n := 18) dX3_nodes_15 rfl ffX3_29 (by first | rfl | exact nS0 (nA_at (by omega) (by omega))) (by first | rfl | exact nS0 (nA_at (by omega) (by omega))) ?_
    refine Z_iload_n (n := 19) dX3_nodes_18 rfl rfl ?_
    refine Z_iald (n := 20) dX3_nodes_19 rfl (by first | rfl | exact nS0 (nA_at (by omega) (by omega))) rfl (by first | decide | assumption) (by omega) (by omega) (fun r19 s19 => ?_)
    refine Z_callVi (n := 23) [_] _ dX3_nodes_20 rfl cwX3_152 rfl rfl (by first | rfl | exact nS0 (nA_at (by omega) (by omega))) (Nat.le_of_ble_eq_true rfl) (by refine ⟨?_, ?_, ?_, ?_⟩ <;> exact Nat.le_of_ble_eq_true rfl) (fun _ h => h) (zX2_nodeCount_f  (by exact hSb.1) (by exact Or.inr okf)) ?_
    intro x20 M20 J20 z20 f20 q20
    obtain ⟨e20_1, cn20⟩ := q20
    replace e20_1 := e20_1.symm; subst e20_1
    refine Z_iret dX3_nodes_23 rfl ?_
    exact ⟨rfl, Or.inr ⟨by omega, cn20⟩⟩
  · refine Z_iconst (n := 9) dX3_nodes_8 rfl (by decide) ?_
    refine Z_iret dX3_nodes_9 rfl ?_
    exact ⟨rfl, Or.inl ⟨by omega, rfl⟩⟩
set_option maxRecDepth 20000 in
theorem zX4_nodes_g {G : tl_G} {M : zM} {J : zJ} {f : Int}  : ZN G yX4_nodes mX4_nodes 3 kAll [vR 31, vI f] F1 M J (qI (fun x M' J' => M' = M ∧ J' = J ∧ (((f < 0 ∨ 12 ≤ f ∨ M 43 f = 0) ∧ x = -1) ∨ (¬ (f < 0 ∨ 12 ≤ f ∨ M 43 f = 0) ∧ x = M 45 f)))) := by
  refine ZN_of (L := [_, _]) (by decide) rfl rfl (Nat.le_of_ble_eq_true rfl) rfl (fun hav => ?_)
  refine Z_aload_n (n := 1) dX4_nodes_0 rfl rfl ?_
  refine Z_iload_n (n := 2) dX4_nodes_1 rfl rfl ?_
  refine Z_callVi (n := 5) [_] _ dX4_nodes_2 rfl cwX4_223 rfl rfl rfl (Nat.le_of_ble_eq_true rfl) (by refine ⟨?_, ?_, ?_, ?_⟩ <;> exact Nat.le_of_ble_eq_true rfl) (fun _ h => h) (zX4_isFunction  ) ?_
  intro x2 M2 J2 z2 f2 q2
  obtain ⟨e2_1, e2_2, h2⟩ := q2
  replace e2_1 := e2_1.symm; subst e2_1
  replace e2_2 := e2_2.symm; subst e2_2
  refine Z_if_eq (n := 8) (t := 17) dX4_nodes_5 rfl (by decide) (fun c5 => ?_) (fun c5 => ?_)
  · refine Z_iconst (n := 18) dX4_nodes_17 rfl (by decide) ?_
    refine Z_iret dX4_nodes_18 rfl ?_
    first
      | exact ⟨rfl, rfl, Or.inl ⟨by omega, rfl⟩⟩
      | exact ⟨rfl, rfl, Or.inr ⟨by omega, rfl⟩⟩
  · refine Z_aload_n (n := 9) dX4_nodes_8 rfl rfl ?_
    refine Z_getA (n := 12) dX4_nodes_9 rfl ffX4_51 rfl rfl ?_
    refine Z_iload_n (n := 13) dX4_nodes_12 rfl rfl ?_
    refine Z_iald (n := 14) dX4_nodes_13 rfl rfl rfl (by first | decide | assumption) (by omega) (by omega) (fun r13 s13 => ?_)
    refine Z_goto (t := 18) dX4_nodes_14 (by decide) ?_
    refine Z_iret dX4_nodes_18 rfl ?_
    first
      | exact ⟨rfl, rfl, Or.inl ⟨by omega, rfl⟩⟩
      | exact ⟨rfl, rfl, Or.inr ⟨by omega, rfl⟩⟩
set_option maxRecDepth 20000 in
theorem zX3_same_f {G : tl_G} {M : zM} {J : zJ} {f g : Int}  : ZN G yX3_same mX3_same 2 kAll [vR 0, vI f, vI g] F1 M J (qI (fun x M' J' => M' = M ∧ J' = J ∧ (((f < 0 ∨ 12 ≤ f ∨ M 12 f = -1 ∨ g < 0 ∨ 12 ≤ g ∨ M 12 g = -1) ∧ x = -1) ∨ (¬ (f < 0 ∨ 12 ≤ f ∨ M 12 f = -1 ∨ g < 0 ∨ 12 ≤ g ∨ M 12 g = -1) ∧ ((M 12 f = M 12 g ∧ x = 1) ∨ (¬ M 12 f = M 12 g ∧ x = 0)))))) := by
  refine ZN_of (L := [_, _, _]) (by decide) rfl rfl (Nat.le_of_ble_eq_true rfl) rfl (fun hav => ?_)
  refine Z_aload_n (n := 1) dX3_same_0 rfl rfl ?_
  refine Z_iload_n (n := 2) dX3_same_1 rfl rfl ?_
  refine Z_callVi (n := 5) [_] _ dX3_same_2 rfl cwX3_139 rfl rfl (by first | rfl | exact nS0 (nA_at (by omega) (by omega))) (Nat.le_of_ble_eq_true rfl) (by refine ⟨?_, ?_, ?_, ?_⟩ <;> exact Nat.le_of_ble_eq_true rfl) (fun _ h => h) (zX3_hasFunction  ) ?_
  intro x2 M2 J2 z2 f2 q2
  obtain ⟨e2_1, e2_2, h2⟩ := q2
  replace e2_1 := e2_1.symm; subst e2_1
  replace e2_2 := e2_2.symm; subst e2_2
  refine Z_if_eq (n := 8) (t := 16) dX3_same_5 rfl (by decide) (fun c5 => ?_) (fun c5 => ?_)
  · refine Z_iconst (n := 17) dX3_same_16 rfl (by decide) ?_
    refine Z_iret dX3_same_17 rfl ?_
    exact ⟨rfl, rfl, Or.inl ⟨by omega, rfl⟩⟩
  · refine Z_aload_n (n := 9) dX3_same_8 rfl rfl ?_
    refine Z_iload_n (n := 10) dX3_same_9 rfl rfl ?_
    refine Z_callVi (n := 13) [_] _ dX3_same_10 rfl cwX3_139 rfl rfl (by first | rfl | exact nS0 (nA_at (by omega) (by omega))) (Nat.le_of_ble_eq_true rfl) (by refine ⟨?_, ?_, ?_, ?_⟩ <;> exact Nat.le_of_ble_eq_true rfl) (fun _ h => h) (zX3_hasFunction  ) ?_
    intro x10 M10 J10 z10 f10 q10
    obtain ⟨e10_1, e10_2, h10⟩ := q10
    replace e10_1 := e10_1.symm; subst e10_1
    replace e10_2 := e10_2.symm; subst e10_2
    refine Z_if_ne (n := 16) (t := 18) dX3_same_13 rfl (by decide) (fun c13 => ?_) (fun c13 => ?_)
    · refine Z_aload_n (n := 19) dX3_same_18 rfl rfl ?_
      refine Z_getA (n := 22) dX3_same_19 rfl ffX3_29 (by first | rfl | exact nS0 (nA_at (by omega) (by omega))) (by first | rfl | exact nS0 (nA_at (by omega) (by omega))) ?_
      refine Z_iload_n (n := 23) dX3_same_22 rfl rfl ?_
      refine Z_iald (n := 24) dX3_same_23 rfl (by first | rfl | exact nS0 (nA_at (by omega) (by omega))) rfl (by first | decide | assumption) (by omega) (by omega) (fun r23 s23 => ?_)
      refine Z_aload_n (n := 25) dX3_same_24 rfl rfl ?_
      refine Z_getA (n := 28) dX3_same_25 rfl ffX3_29 (by first | rfl | exact nS0 (nA_at (by omega) (by omega))) (by first | rfl | exact nS0 (nA_at (by omega) (by omega))) ?_
      refine Z_iload_n (n := 29) dX3_same_28 rfl rfl ?_
      refine Z_iald (n := 30) dX3_same_29 rfl (by first | rfl | exact nS0 (nA_at (by omega) (by omega))) rfl (by first | decide | assumption) (by omega) (by omega) (fun r29 s29 => ?_)
      refine Z_icmp_ne (n := 33) (t := 37) dX3_same_30 rfl (by decide) (fun c30 => ?_) (fun c30 => ?_)
      · refine Z_iconst (n := 38) dX3_same_37 rfl (by decide) ?_
        refine Z_iret dX3_same_38 rfl ?_
        first
          | exact ⟨rfl, rfl, Or.inr ⟨by omega, Or.inl ⟨c30, rfl⟩⟩⟩
          | exact ⟨rfl, rfl, Or.inr ⟨by omega, Or.inr ⟨c30, rfl⟩⟩⟩
      · refine Z_iconst (n := 34) dX3_same_33 rfl (by decide) ?_
        refine Z_goto (t := 38) dX3_same_34 (by decide) ?_
        refine Z_iret dX3_same_38 rfl ?_
        first
          | exact ⟨rfl, rfl, Or.inr ⟨by omega, Or.inl ⟨c30, rfl⟩⟩⟩
          | exact ⟨rfl, rfl, Or.inr ⟨by omega, Or.inr ⟨c30, rfl⟩⟩⟩
    · refine Z_iconst (n := 17) dX3_same_16 rfl (by decide) ?_
      refine Z_iret dX3_same_17 rfl ?_
      exact ⟨rfl, rfl, Or.inl ⟨by omega, rfl⟩⟩
def smQ (B C : Int → Int64) (k e : Int) : Prop := (e = 1 ∧ ∀ j : Int, 0 ≤ j → j < k → B j = C j) ∨ (e = 0 ∧ ∃ j : Int, (0 ≤ j ∧ j < 4) ∧ ¬ B j = C j)
theorem sm_y {B C : Int → Int64} {k e : Int} (h : smQ B C k e) (he : ¬ e = 0) (q : B k = C k) : smQ B C (k + 1) 1 := by
  rcases h with ⟨-, a⟩ | ⟨a, -⟩
  · refine Or.inl ⟨rfl, fun j j0 j1 => ?_⟩
    by_cases w : j = k
    · rw [w]; exact q
    · exact a j j0 (by omega)
  · exact absurd a he
theorem sm_n {B C : Int → Int64} {k e : Int} (h : smQ B C k e) (k0 : 0 ≤ k) (k1 : k < 4) (q : e = 0 ∨ ¬ B k = C k) : smQ B C (k + 1) 0 := by
  rcases q with q | q
  · rcases h with ⟨a, -⟩ | ⟨-, b⟩
    · omega
    · exact Or.inr ⟨rfl, b⟩
  · exact Or.inr ⟨rfl, k, ⟨k0, k1⟩, q⟩
theorem sm_01 {B C : Int → Int64} {k e : Int} (h : smQ B C k e) : e = 0 ∨ e = 1 := by
  rcases h with ⟨a, -⟩ | ⟨a, -⟩
  · exact Or.inr a
  · exact Or.inl a
set_option maxRecDepth 20000 in
theorem zX4_same_g {G : tl_G} {M : zM} {J : zJ} {f g : Int}  : ZN G yX4_same mX4_same 3 kAll [vR 31, vI f, vI g] F1 M J (qI (fun x M' J' => M' = M ∧ J' = J ∧ (((f < 0 ∨ 12 ≤ f ∨ M 43 f = 0 ∨ g < 0 ∨ 12 ≤ g ∨ M 43 g = 0) ∧ x = -1) ∨ (¬ (f < 0 ∨ 12 ≤ f ∨ M 43 f = 0 ∨ g < 0 ∨ 12 ≤ g ∨ M 43 g = 0) ∧ smQ (bitF J f) (bitF J g) 4 x)))) := by
  refine ZN_of (L := [_, _, _, _, _]) (by decide) rfl rfl (Nat.le_of_ble_eq_true rfl) rfl (fun hav => ?_)
  refine Z_aload_n (n := 1) dX4_same_0 rfl rfl ?_
  refine Z_iload_n (n := 2) dX4_same_1 rfl rfl ?_
  refine Z_callVi (n := 5) [_] _ dX4_same_2 rfl cwX4_223 rfl rfl rfl (Nat.le_of_ble_eq_true rfl) (by refine ⟨?_, ?_, ?_, ?_⟩ <;> exact Nat.le_of_ble_eq_true rfl) (fun _ h => h) (zX4_isFunction  ) ?_
  intro x2 M2 J2 z2 f2 q2
  obtain ⟨e2_1, e2_2, h2⟩ := q2
  replace e2_1 := e2_1.symm; subst e2_1
  replace e2_2 := e2_2.symm; subst e2_2
  refine Z_if_eq (n := 8) (t := 16) dX4_same_5 rfl (by decide) (fun c5 => ?_) (fun c5 => ?_)
  · refine Z_iconst (n := 17) dX4_same_16 rfl (by decide) ?_
    refine Z_iret dX4_same_17 rfl ?_
    exact ⟨rfl, rfl, Or.inl ⟨by omega, rfl⟩⟩
  · refine Z_aload_n (n := 9) dX4_same_8 rfl rfl ?_
    refine Z_iload_n (n := 10) dX4_same_9 rfl rfl ?_
    refine Z_callVi (n := 13) [_] _ dX4_same_10 rfl cwX4_223 rfl rfl rfl (Nat.le_of_ble_eq_true rfl) (by refine ⟨?_, ?_, ?_, ?_⟩ <;> exact Nat.le_of_ble_eq_true rfl) (fun _ h => h) (zX4_isFunction  ) ?_
    intro x10 M10 J10 z10 f10 q10
    obtain ⟨e10_1, e10_2, h10⟩ := q10
    replace e10_1 := e10_1.symm; subst e10_1
    replace e10_2 := e10_2.symm; subst e10_2
    refine Z_if_ne (n := 16) (t := 18) dX4_same_13 rfl (by decide) (fun c13 => ?_) (fun c13 => ?_)
    · refine Z_iconst (n := 19) dX4_same_18 rfl (by decide) ?_
      refine Z_istore_n (L' := [_, _, _, _, _]) (n := 20) dX4_same_19 rfl (by decide) rfl rfl ?_
      refine Z_iconst (n := 21) dX4_same_20 rfl (by decide) ?_
      refine Z_istore (L' := [_, _, _, _, _]) (n := 23) dX4_same_21 rfl (by decide) rfl rfl ?_
      have lp23 : ∀ (N23 : Nat) (e k : Int) , ((4 - k).toNat) < N23 → (0 ≤ k) → (k ≤ 4) → (smQ (bitF J f) (bitF J g) k e) → TZ G mX4_same (tl_rm 3 0 0) 0 0 kAll M J 23 [some (vR 31), some (vI f), some (vI g), some (vI e), some (vI k)] [] F1 M J (ZM G (zPost G kAll F1 M J (qI (fun x M' J' => M' = M ∧ J' = J ∧ (((f < 0 ∨ 12 ≤ f ∨ M 43 f = 0 ∨ g < 0 ∨ 12 ≤ g ∨ M 43 g = 0) ∧ x = -1) ∨ (¬ (f < 0 ∨ 12 ≤ f ∨ M 43 f = 0 ∨ g < 0 ∨ 12 ≤ g ∨ M 43 g = 0) ∧ smQ (bitF J f) (bitF J g) 4 x))))) 0 0) := by
        intro N23
        induction N23 with
        | zero => intro e k  hN; omega
        | succ N23 ih23 =>
          intro e k  hN23 i23_0 i23_1 i23_2
          refine Z_iload (n := 25) dX4_same_23 rfl rfl ?_
          refine Z_iconst (n := 26) dX4_same_25 rfl (by decide) ?_
          refine Z_icmp_ge (n := 29) (t := 71) dX4_same_26 rfl (by decide) (fun c26 => ?_) (fun c26 => ?_)
          · refine Z_iload_n (n := 72) dX4_same_71 rfl rfl ?_
            refine Z_if_eq (n := 75) (t := 79) dX4_same_72 rfl (by decide) (fun c72 => ?_) (fun c72 => ?_)
            · refine Z_iconst (n := 80) dX4_same_79 rfl (by decide) ?_
              refine Z_iret dX4_same_80 rfl ?_
              have e4 : k = 4 := by omega
              rw [e4] at i23_2
              have q := sm_01 i23_2
              refine ⟨rfl, rfl, Or.inr ⟨by omega, ?_⟩⟩
              first
                | (rw [show e = 1 by omega] at i23_2; exact i23_2)
                | (rw [show e = 0 by omega] at i23_2; exact i23_2)
            · refine Z_iconst (n := 76) dX4_same_75 rfl (by decide) ?_
              refine Z_goto (t := 80) dX4_same_76 (by decide) ?_
              refine Z_iret dX4_same_80 rfl ?_
              have e4 : k = 4 := by omega
              rw [e4] at i23_2
              have q := sm_01 i23_2
              refine ⟨rfl, rfl, Or.inr ⟨by omega, ?_⟩⟩
              first
                | (rw [show e = 1 by omega] at i23_2; exact i23_2)
                | (rw [show e = 0 by omega] at i23_2; exact i23_2)
          · refine Z_iload_n (n := 30) dX4_same_29 rfl rfl ?_
            refine Z_if_eq (n := 33) (t := 63) dX4_same_30 rfl (by decide) (fun c30 => ?_) (fun c30 => ?_)
            · have nx := sm_n i23_2 (by omega) (by omega) (Or.inl c30)
              refine Z_iconst (n := 64) dX4_same_63 rfl (by decide) ?_
              refine Z_istore_n (L' := [_, _, _, _, _]) (n := 65) dX4_same_64 rfl (by decide) rfl rfl ?_
              refine Z_iinc (L' := [_, _, _, _, _]) (n := 68) dX4_same_65 rfl rfl (by decide) rfl rfl (by omega) rfl ?_
              refine Z_goto (t := 23) dX4_same_68 (by decide) ?_
              refine Z_loc (L' := [some _, some _, some _, some _, some _]) (lsub_same (lsub_same (lsub_same (lsub_same (lsub_same lsub_nil))))) ?_
              exact ih23 _ _  (by omega) (by first | assumption | omega | decide) (by first | assumption | omega | decide) (by exact nx)
            · refine Z_aload_n (n := 34) dX4_same_33 rfl rfl ?_
              refine Z_getA (n := 37) dX4_same_34 rfl ffX4_47 rfl rfl ?_
              refine Z_iconst (n := 38) dX4_same_37 rfl (by decide) ?_
              refine Z_iload_n (n := 39) dX4_same_38 rfl rfl ?_
              refine Z_imul (n := 40) dX4_same_39 rfl (by omega) ?_
              refine Z_iload (n := 42) dX4_same_40 rfl rfl ?_
              refine Z_iadd (n := 43) dX4_same_42 rfl (by omega) ?_
              refine Z_lald (n := 44) dX4_same_43 rfl rfl (by decide) (by omega) (by omega) ?_
              refine Z_aload_n (n := 45) dX4_same_44 rfl rfl ?_
              refine Z_getA (n := 48) dX4_same_45 rfl ffX4_47 rfl rfl ?_
              refine Z_iconst (n := 49) dX4_same_48 rfl (by decide) ?_
              refine Z_iload_n (n := 50) dX4_same_49 rfl rfl ?_
              refine Z_imul (n := 51) dX4_same_50 rfl (by omega) ?_
              refine Z_iload (n := 53) dX4_same_51 rfl rfl ?_
              refine Z_iadd (n := 54) dX4_same_53 rfl (by omega) ?_
              refine Z_lald (n := 55) dX4_same_54 rfl rfl (by decide) (by omega) (by omega) ?_
              refine Z_lcmp (n := 56) dX4_same_55 rfl ?_
              refine Z_if_ne (n := 59) (t := 63) dX4_same_56 rfl (by decide) (fun c56 => ?_) (fun c56 => ?_)
              · have nx := sm_n i23_2 (by omega) (by omega) (Or.inr (fun t => c56 ((zcmp_eq _ _).mpr t)))
                refine Z_iconst (n := 64) dX4_same_63 rfl (by decide) ?_
                refine Z_istore_n (L' := [_, _, _, _, _]) (n := 65) dX4_same_64 rfl (by decide) rfl rfl ?_
                refine Z_iinc (L' := [_, _, _, _, _]) (n := 68) dX4_same_65 rfl rfl (by decide) rfl rfl (by omega) rfl ?_
                refine Z_goto (t := 23) dX4_same_68 (by decide) ?_
                refine Z_loc (L' := [some _, some _, some _, some _, some _]) (lsub_same (lsub_same (lsub_same (lsub_same (lsub_same lsub_nil))))) ?_
                exact ih23 _ _  (by omega) (by first | assumption | omega | decide) (by first | assumption | omega | decide) (by exact nx)
              · have nx := sm_y i23_2 c30 ((zcmp_eq _ _).mp c56)
                refine Z_iconst (n := 60) dX4_same_59 rfl (by decide) ?_
                refine Z_goto (t := 64) dX4_same_60 (by decide) ?_
                refine Z_istore_n (L' := [_, _, _, _, _]) (n := 65) dX4_same_64 rfl (by decide) rfl rfl ?_
                refine Z_iinc (L' := [_, _, _, _, _]) (n := 68) dX4_same_65 rfl rfl (by decide) rfl rfl (by omega) rfl ?_
                refine Z_goto (t := 23) dX4_same_68 (by decide) ?_
                refine Z_loc (L' := [some _, some _, some _, some _, some _]) (lsub_same (lsub_same (lsub_same (lsub_same (lsub_same lsub_nil))))) ?_
                exact ih23 _ _  (by omega) (by first | assumption | omega | decide) (by first | assumption | omega | decide) (by exact nx)
      refine Z_loc (L' := [some _, some _, some _, some _, some _]) (lsub_same (lsub_same (lsub_same (lsub_same (lsub_same lsub_nil))))) ?_
      exact lp23 _ _ _  (Nat.lt_succ_self _) (by first | assumption | omega | decide) (by first | assumption | omega | decide) (by exact Or.inl ⟨rfl, fun j a b => by omega⟩)
    · refine Z_iconst (n := 17) dX4_same_16 rfl (by decide) ?_
      refine Z_iret dX4_same_17 rfl ?_
      exact ⟨rfl, rfl, Or.inl ⟨by omega, rfl⟩⟩
set_option maxRecDepth 20000 in
theorem zX2_valueFor_f {G : tl_G} {M : zM} {J : zJ} {S : Int → Prop} {n a : Int} (hp : pst M S) (hn : okN S n) : ZN G yX2_valueFor mX2_valueFor 1 kAll [vR 5, vI n, vI a, vR 2] F1 M J (qI (fun x M' J' => M' = M ∧ J' = J ∧ x = vF (den M n) (M 3) a)) := by
  refine ZN_of (L := [_, _, _, _, _, _, _]) (by decide) rfl rfl (Nat.le_of_ble_eq_true rfl) rfl (fun hav => ?_)
  have hin := okN_in hp hn
  refine Z_iload_n (n := 1) dX2_valueFor_0 rfl rfl ?_
  refine Z_istore (L' := [_, _, _, _, _, _, _]) (n := 3) dX2_valueFor_1 rfl (by decide) rfl rfl ?_
  refine Z_iconst (n := 4) dX2_valueFor_3 rfl (by decide) ?_
  refine Z_istore (L' := [_, _, _, _, _, _, _]) (n := 6) dX2_valueFor_4 rfl (by decide) rfl rfl ?_
  have lp6 : ∀ (N6 : Nat) (c i : Int) , ((8 - i).toNat) < N6 → (0 ≤ c) → (c ≤ 251) → (0 ≤ i) → (i ≤ 8) → (okN S c) → (i ≤ M 6 c) → (den M c (aR (M 3) a) = den M n (aR (M 3) a)) → TZ G mX2_valueFor (tl_rm 1 0 0) 0 0 kAll M J 6 [some (vR 5), some (vI n), some (vI a), some (vR 2), some (vI c), some (vI i), none] [] F1 M J (ZM G (zPost G kAll F1 M J (qI (fun x M' J' => M' = M ∧ J' = J ∧ x = vF (den M n) (M 3) a))) 0 0) := by
    intro N6
    induction N6 with
    | zero => intro c i  hN; omega
    | succ N6 ih6 =>
      intro c i  hN6 i6_0 i6_1 i6_2 i6_3 i6_4 i6_5 i6_6
      refine Z_iload (n := 8) dX2_valueFor_6 rfl rfl ?_
      refine Z_bipush (n := 10) dX2_valueFor_8 rfl (by decide) (by decide) ?_
      refine Z_icmp_ge (n := 13) (t := 75) dX2_valueFor_10 rfl (by decide) (fun c10 => ?_) (fun c10 => ?_)
      · refine Z_iload (n := 77) dX2_valueFor_75 rfl rfl ?_
        refine Z_iconst (n := 78) dX2_valueFor_77 rfl (by decide) ?_
        refine Z_icmp_ne (n := 81) (t := 85) dX2_valueFor_78 rfl (by decide) (fun c78 => ?_) (fun c78 => ?_)
        · refine Z_iconst (n := 86) dX2_valueFor_85 rfl (by decide) ?_
          refine Z_iret dX2_valueFor_86 rfl ?_
          have tc : c = 0 ∨ c = 1 := by
            by_cases q : c < 2
            · omega
            · exact pst_t hp i6_4 (by omega)
          refine ⟨rfl, rfl, ?_⟩
          show _ = den M n (aR (M 3) a)
          rw [← i6_6]
          rcases tc with e | e
          · rw [e]
            first
              | exact den_0.symm
              | (exfalso; omega)
          · rw [e]
            first
              | exact den_1.symm
              | (exfalso; omega)
        · refine Z_iconst (n := 82) dX2_valueFor_81 rfl (by decide) ?_
          refine Z_goto (t := 86) dX2_valueFor_82 (by decide) ?_
          refine Z_iret dX2_valueFor_86 rfl ?_
          have tc : c = 0 ∨ c = 1 := by
            by_cases q : c < 2
            · omega
            · exact pst_t hp i6_4 (by omega)
          refine ⟨rfl, rfl, ?_⟩
          show _ = den M n (aR (M 3) a)
          rw [← i6_6]
          rcases tc with e | e
          · rw [e]
            first
              | exact den_0.symm
              | (exfalso; omega)
          · rw [e]
            first
              | exact den_1.symm
              | (exfalso; omega)
      · refine Z_iload (n := 15) dX2_valueFor_13 rfl rfl ?_
        refine Z_iconst (n := 16) dX2_valueFor_15 rfl (by decide) ?_
        refine Z_icmp_lt (n := 19) (t := 75) dX2_valueFor_16 rfl (by decide) (fun c16 => ?_) (fun c16 => ?_)
        · refine Z_iload (n := 77) dX2_valueFor_75 rfl rfl ?_
          refine Z_iconst (n := 78) dX2_valueFor_77 rfl (by decide) ?_
          refine Z_icmp_ne (n := 81) (t := 85) dX2_valueFor_78 rfl (by decide) (fun c78 => ?_) (fun c78 => ?_)
          · refine Z_iconst (n := 86) dX2_valueFor_85 rfl (by decide) ?_
            refine Z_iret dX2_valueFor_86 rfl ?_
            have tc : c = 0 ∨ c = 1 := by
              by_cases q : c < 2
              · omega
              · exact pst_t hp i6_4 (by omega)
            refine ⟨rfl, rfl, ?_⟩
            show _ = den M n (aR (M 3) a)
            rw [← i6_6]
            rcases tc with e | e
            · rw [e]
              first
                | exact den_0.symm
                | (exfalso; omega)
            · rw [e]
              first
                | exact den_1.symm
                | (exfalso; omega)
          · refine Z_iconst (n := 82) dX2_valueFor_81 rfl (by decide) ?_
            refine Z_goto (t := 86) dX2_valueFor_82 (by decide) ?_
            refine Z_iret dX2_valueFor_86 rfl ?_
            have tc : c = 0 ∨ c = 1 := by
              by_cases q : c < 2
              · omega
              · exact pst_t hp i6_4 (by omega)
            refine ⟨rfl, rfl, ?_⟩
            show _ = den M n (aR (M 3) a)
            rw [← i6_6]
            rcases tc with e | e
            · rw [e]
              first
                | exact den_0.symm
                | (exfalso; omega)
            · rw [e]
              first
                | exact den_1.symm
                | (exfalso; omega)
        · refine Z_iload_n (n := 20) dX2_valueFor_19 rfl rfl ?_
          refine Z_aload_n (n := 21) dX2_valueFor_20 rfl rfl ?_
          refine Z_aload_n (n := 22) dX2_valueFor_21 rfl rfl ?_
          refine Z_getA (n := 25) dX2_valueFor_22 rfl ffX2_11 rfl rfl ?_
          refine Z_iload (n := 27) dX2_valueFor_25 rfl rfl ?_
          refine Z_iald (n := 28) dX2_valueFor_27 rfl rfl rfl (by first | decide | assumption) (by omega) (by omega) (fun r27 s27 => ?_)
          rw [if_neg (by omega)] at s27
          have sc := okN_2 hp i6_4 (by omega)
          have pc := hp.2.1 c sc
          have pc1 := pc.2.1
          have pcl := pc.2.2.2.1.2
          have pch := pc.2.2.2.2.2
          have rv : aR (M 3) a (M 6 c) = zand (zshr a (M 3 (M 6 c))) 1 := aR_in pc1.1 pc1.2
          have dz := den_n hp sc (aR (M 3) a)
          refine Z_callVi (n := 31) [_] _ dX2_valueFor_28 rfl cwX2_95 rfl rfl rfl (Nat.le_of_ble_eq_true rfl) (by refine ⟨?_, ?_, ?_, ?_⟩ <;> exact Nat.le_of_ble_eq_true rfl) (fun _ h => h) (zX1_variableAt  (by first | assumption | omega | decide) (by first | assumption | omega | decide)) ?_
          intro x28 M28 J28 z28 f28 q28
          obtain ⟨e28_1, e28_2, h28⟩ := q28
          replace e28_1 := e28_1.symm; subst e28_1
          replace e28_2 := e28_2.symm; subst e28_2
          refine Z_ishr (n := 32) dX2_valueFor_31 rfl ?_
          refine Z_iconst (n := 33) dX2_valueFor_32 rfl (by decide) ?_
          refine Z_iand (n := 34) dX2_valueFor_33 rfl ?_
          refine Z_iconst (n := 35) dX2_valueFor_34 rfl (by decide) ?_
          refine Z_icmp_ne (n := 38) (t := 42) dX2_valueFor_35 rfl (by decide) (fun c35 => ?_) (fun c35 => ?_)
          · have yv : aR (M 3) a (M 6 c) = 0 := by
              have w := zand_1 (zshr a (M 3 (M 6 c)))
              rw [rv]
              rw [h28] at c35
              omega
            refine Z_iconst (n := 43) dX2_valueFor_42 rfl (by decide) ?_
            refine Z_istore (L' := [_, _, _, _, _, _, _]) (n := 45) dX2_valueFor_43 rfl (by decide) rfl rfl ?_
            refine Z_iload (n := 47) dX2_valueFor_45 rfl rfl ?_
            refine Z_if_eq (n := 50) (t := 60) dX2_valueFor_47 rfl (by decide) (fun c47 => ?_) (fun c47 => ?_)
            · refine Z_aload_n (n := 61) dX2_valueFor_60 rfl rfl ?_
              refine Z_getA (n := 64) dX2_valueFor_61 rfl ffX2_15 rfl rfl ?_
              refine Z_iload (n := 66) dX2_valueFor_64 rfl rfl ?_
              refine Z_iald (n := 67) dX2_valueFor_66 rfl rfl rfl (by first | decide | assumption) (by omega) (by omega) (fun r66 s66 => ?_)
              have nx4 : okN S (M 7 c) := pc.2.2.2.1.1
              have nx5 : i + 1 ≤ M 6 (M 7 c) := by omega
              have nx6 : den M (M 7 c) (aR (M 3) a) = den M n (aR (M 3) a) := by
                first
                  | (exfalso; omega)
                  | (rw [if_pos yv] at dz; exact dz.symm.trans i6_6)
              refine Z_istore (L' := [_, _, _, _, _, _, _]) (n := 69) dX2_valueFor_67 rfl (by decide) rfl rfl ?_
              refine Z_iinc (L' := [_, _, _, _, _, _, _]) (n := 72) dX2_valueFor_69 rfl rfl (by decide) rfl rfl (by omega) rfl ?_
              refine Z_goto (t := 6) dX2_valueFor_72 (by decide) ?_
              refine Z_loc (L' := [some _, some _, some _, some _, some _, some _, none]) (lsub_same (lsub_same (lsub_same (lsub_same (lsub_same (lsub_same (lsub_none lsub_nil))))))) ?_
              exact ih6 _ _  (by omega) (by first | assumption | omega | decide) (by first | assumption | omega | decide) (by first | assumption | omega | decide) (by first | assumption | omega | decide) (by exact nx4) (by exact nx5) (by exact nx6)
            · refine Z_aload_n (n := 51) dX2_valueFor_50 rfl rfl ?_
              refine Z_getA (n := 54) dX2_valueFor_51 rfl ffX2_18 rfl rfl ?_
              refine Z_iload (n := 56) dX2_valueFor_54 rfl rfl ?_
              refine Z_iald (n := 57) dX2_valueFor_56 rfl rfl rfl (by first | decide | assumption) (by omega) (by omega) (fun r56 s56 => ?_)
              have nx4 : okN S (M 8 c) := pc.2.2.2.2.1
              have nx5 : i + 1 ≤ M 6 (M 8 c) := by omega
              have nx6 : den M (M 8 c) (aR (M 3) a) = den M n (aR (M 3) a) := by
                first
                  | (exfalso; omega)
                  | (rw [if_neg yv] at dz; exact dz.symm.trans i6_6)
              refine Z_goto (t := 67) dX2_valueFor_57 (by decide) ?_
              refine Z_istore (L' := [_, _, _, _, _, _, _]) (n := 69) dX2_valueFor_67 rfl (by decide) rfl rfl ?_
              refine Z_iinc (L' := [_, _, _, _, _, _, _]) (n := 72) dX2_valueFor_69 rfl rfl (by decide) rfl rfl (by omega) rfl ?_
              refine Z_goto (t := 6) dX2_valueFor_72 (by decide) ?_
              refine Z_loc (L' := [some _, some _, some _, some _, some _, some _, none]) (lsub_same (lsub_same (lsub_same (lsub_same (lsub_same (lsub_same (lsub_none lsub_nil))))))) ?_
              exact ih6 _ _  (by omega) (by first | assumption | omega | decide) (by first | assumption | omega | decide) (by first | assumption | omega | decide) (by first | assumption | omega | decide) (by exact nx4) (by exact nx5) (by exact nx6)
          · have yv : ¬ aR (M 3) a (M 6 c) = 0 := by
              rw [rv, ← h28]
              omega
            refine Z_iconst (n := 39) dX2_valueFor_38 rfl (by decide) ?_
            refine Z_goto (t := 43) dX2_valueFor_39 (by decide) ?_
            refine Z_istore (L' := [_, _, _, _, _, _, _]) (n := 45) dX2_valueFor_43 rfl (by decide) rfl rfl ?_
            refine Z_iload (n := 47) dX2_valueFor_45 rfl rfl ?_
            refine Z_if_eq (n := 50) (t := 60) dX2_valueFor_47 rfl (by decide) (fun c47 => ?_) (fun c47 => ?_)
            · refine Z_aload_n (n := 61) dX2_valueFor_60 rfl rfl ?_
              refine Z_getA (n := 64) dX2_valueFor_61 rfl ffX2_15 rfl rfl ?_
              refine Z_iload (n := 66) dX2_valueFor_64 rfl rfl ?_
              refine Z_iald (n := 67) dX2_valueFor_66 rfl rfl rfl (by first | decide | assumption) (by omega) (by omega) (fun r66 s66 => ?_)
              have nx4 : okN S (M 7 c) := pc.2.2.2.1.1
              have nx5 : i + 1 ≤ M 6 (M 7 c) := by omega
              have nx6 : den M (M 7 c) (aR (M 3) a) = den M n (aR (M 3) a) := by
                first
                  | (exfalso; omega)
                  | (rw [if_pos yv] at dz; exact dz.symm.trans i6_6)
              refine Z_istore (L' := [_, _, _, _, _, _, _]) (n := 69) dX2_valueFor_67 rfl (by decide) rfl rfl ?_
              refine Z_iinc (L' := [_, _, _, _, _, _, _]) (n := 72) dX2_valueFor_69 rfl rfl (by decide) rfl rfl (by omega) rfl ?_
              refine Z_goto (t := 6) dX2_valueFor_72 (by decide) ?_
              refine Z_loc (L' := [some _, some _, some _, some _, some _, some _, none]) (lsub_same (lsub_same (lsub_same (lsub_same (lsub_same (lsub_same (lsub_none lsub_nil))))))) ?_
              exact ih6 _ _  (by omega) (by first | assumption | omega | decide) (by first | assumption | omega | decide) (by first | assumption | omega | decide) (by first | assumption | omega | decide) (by exact nx4) (by exact nx5) (by exact nx6)
            · refine Z_aload_n (n := 51) dX2_valueFor_50 rfl rfl ?_
              refine Z_getA (n := 54) dX2_valueFor_51 rfl ffX2_18 rfl rfl ?_
              refine Z_iload (n := 56) dX2_valueFor_54 rfl rfl ?_
              refine Z_iald (n := 57) dX2_valueFor_56 rfl rfl rfl (by first | decide | assumption) (by omega) (by omega) (fun r56 s56 => ?_)
              have nx4 : okN S (M 8 c) := pc.2.2.2.2.1
              have nx5 : i + 1 ≤ M 6 (M 8 c) := by omega
              have nx6 : den M (M 8 c) (aR (M 3) a) = den M n (aR (M 3) a) := by
                first
                  | (exfalso; omega)
                  | (rw [if_neg yv] at dz; exact dz.symm.trans i6_6)
              refine Z_goto (t := 67) dX2_valueFor_57 (by decide) ?_
              refine Z_istore (L' := [_, _, _, _, _, _, _]) (n := 69) dX2_valueFor_67 rfl (by decide) rfl rfl ?_
              refine Z_iinc (L' := [_, _, _, _, _, _, _]) (n := 72) dX2_valueFor_69 rfl rfl (by decide) rfl rfl (by omega) rfl ?_
              refine Z_goto (t := 6) dX2_valueFor_72 (by decide) ?_
              refine Z_loc (L' := [some _, some _, some _, some _, some _, some _, none]) (lsub_same (lsub_same (lsub_same (lsub_same (lsub_same (lsub_same (lsub_none lsub_nil))))))) ?_
              exact ih6 _ _  (by omega) (by first | assumption | omega | decide) (by first | assumption | omega | decide) (by first | assumption | omega | decide) (by first | assumption | omega | decide) (by exact nx4) (by exact nx5) (by exact nx6)
  refine Z_loc (L' := [some _, some _, some _, some _, some _, some _, none]) (lsub_same (lsub_same (lsub_same (lsub_same (lsub_same (lsub_same (lsub_none lsub_nil))))))) ?_
  exact lp6 _ _ _  (Nat.lt_succ_self _) (by first | assumption | omega | decide) (by first | assumption | omega | decide) (by first | assumption | omega | decide) (by first | assumption | omega | decide) (by exact hn) (by exact (pst_pl hp hn).1) (by rfl)
set_option maxRecDepth 20000 in
theorem zX3_value_f {G : tl_G} {M : zM} {J : zJ} {f a : Int} (hb : CB M) : ZN G yX3_value mX3_value 2 kAll [vR 0, vI f, vI a] F1 M J (qI (fun x M' J' => M' = M ∧ J' = J ∧ (((f < 0 ∨ 12 ≤ f ∨ M 12 f = -1) ∧ x = -1) ∨ (¬ (f < 0 ∨ 12 ≤ f ∨ M 12 f = -1) ∧ (a < 0 ∨ 256 ≤ a) ∧ x = -2) ∨ (¬ (f < 0 ∨ 12 ≤ f ∨ M 12 f = -1) ∧ 0 ≤ a ∧ a < 256 ∧ x = vF (den M (M 12 f)) (M 3) a)))) := by
  refine ZN_of (L := [_, _, _]) (by decide) rfl rfl (Nat.le_of_ble_eq_true rfl) rfl (fun hav => ?_)
  obtain ⟨⟨Sb, hSb, hRb⟩, -⟩ := hb
  refine Z_aload_n (n := 1) dX3_value_0 rfl rfl ?_
  refine Z_iload_n (n := 2) dX3_value_1 rfl rfl ?_
  refine Z_callVi (n := 5) [_] _ dX3_value_2 rfl cwX3_139 rfl rfl (by first | rfl | exact nS0 (nA_at (by omega) (by omega))) (Nat.le_of_ble_eq_true rfl) (by refine ⟨?_, ?_, ?_, ?_⟩ <;> exact Nat.le_of_ble_eq_true rfl) (fun _ h => h) (zX3_hasFunction  ) ?_
  intro x2 M2 J2 z2 f2 q2
  obtain ⟨e2_1, e2_2, h2⟩ := q2
  replace e2_1 := e2_1.symm; subst e2_1
  replace e2_2 := e2_2.symm; subst e2_2
  refine Z_if_ne (n := 8) (t := 10) dX3_value_5 rfl (by decide) (fun c5 => ?_) (fun c5 => ?_)
  · refine Z_iload_n (n := 11) dX3_value_10 rfl rfl ?_
    refine Z_callSi (n := 14) [_] _ dX3_value_11 rfl cwX3_91 rfl rfl (Nat.le_of_ble_eq_true rfl) (by refine ⟨?_, ?_, ?_, ?_⟩ <;> exact Nat.le_of_ble_eq_true rfl) (fun _ h => h) (zX3_isAssignment  ) ?_
    intro x11 M11 J11 z11 f11 q11
    obtain ⟨e11_1, e11_2, h11⟩ := q11
    replace e11_1 := e11_1.symm; subst e11_1
    replace e11_2 := e11_2.symm; subst e11_2
    refine Z_if_ne (n := 17) (t := 20) dX3_value_14 rfl (by decide) (fun c14 => ?_) (fun c14 => ?_)
    · have okf : okN Sb (M 12 f) := (hRb _ (Or.inl ⟨f, ⟨by omega, by omega⟩, rfl⟩)).resolve_left (by omega)
      refine Z_aload_n (n := 21) dX3_value_20 rfl rfl ?_
      refine Z_getO (n := 24) dX3_value_21 rfl ffX3_25 (by first | rfl | exact nS0 (nA_at (by omega) (by omega))) (by first | rfl | exact nS0 (nA_at (by omega) (by omega))) ?_
      refine Z_aload_n (n := 25) dX3_value_24 rfl rfl ?_
      refine Z_getA (n := 28) dX3_value_25 rfl ffX3_29 (by first | rfl | exact nS0 (nA_at (by omega) (by omega))) (by first | rfl | exact nS0 (nA_at (by omega) (by omega))) ?_
      refine Z_iload_n (n := 29) dX3_value_28 rfl rfl ?_
      refine Z_iald (n := 30) dX3_value_29 rfl (by first | rfl | exact nS0 (nA_at (by omega) (by omega))) rfl (by first | decide | assumption) (by omega) (by omega) (fun r29 s29 => ?_)
      refine Z_iload_n (n := 31) dX3_value_30 rfl rfl ?_
      refine Z_aload_n (n := 32) dX3_value_31 rfl rfl ?_
      refine Z_getO (n := 35) dX3_value_32 rfl ffX3_18 (by first | rfl | exact nS0 (nA_at (by omega) (by omega))) (by first | rfl | exact nS0 (nA_at (by omega) (by omega))) ?_
      refine Z_callVi (n := 38) [_, _, _] _ dX3_value_35 rfl cwX3_164 rfl rfl (by first | rfl | exact nS0 (nA_at (by omega) (by omega))) (Nat.le_of_ble_eq_true rfl) (by refine ⟨?_, ?_, ?_, ?_⟩ <;> exact Nat.le_of_ble_eq_true rfl) (fun _ h => h) (zX2_valueFor_f  (by exact hSb.1) (by exact okf)) ?_
      intro x35 M35 J35 z35 f35 q35
      obtain ⟨e35_1, e35_2, h35⟩ := q35
      replace e35_1 := e35_1.symm; subst e35_1
      replace e35_2 := e35_2.symm; subst e35_2
      refine Z_iret dX3_value_38 rfl ?_
      exact ⟨rfl, rfl, Or.inr (Or.inr ⟨by omega, by omega, by omega, h35⟩)⟩
    · refine Z_bipush (n := 19) dX3_value_17 rfl (by decide) (by decide) ?_
      refine Z_iret dX3_value_19 rfl ?_
      exact ⟨rfl, rfl, Or.inr (Or.inl ⟨by omega, by omega, rfl⟩)⟩
  · refine Z_iconst (n := 9) dX3_value_8 rfl (by decide) ?_
    refine Z_iret dX3_value_9 rfl ?_
    exact ⟨rfl, rfl, Or.inl ⟨by omega, rfl⟩⟩
set_option maxRecDepth 20000 in
theorem zX4_value_g {G : tl_G} {M : zM} {J : zJ} {f a : Int}  : ZN G yX4_value mX4_value 3 kAll [vR 31, vI f, vI a] F1 M J (qI (fun x M' J' => M' = M ∧ J' = J ∧ (((f < 0 ∨ 12 ≤ f ∨ M 43 f = 0) ∧ x = -1) ∨ (¬ (f < 0 ∨ 12 ≤ f ∨ M 43 f = 0) ∧ (a < 0 ∨ 256 ≤ a) ∧ x = -2) ∨ (¬ (f < 0 ∨ 12 ≤ f ∨ M 43 f = 0) ∧ 0 ≤ a ∧ a < 256 ∧ x = vF (phi J f) (M 38) a)))) := by
  refine ZN_of (L := [_, _, _]) (by decide) rfl rfl (Nat.le_of_ble_eq_true rfl) rfl (fun hav => ?_)
  refine Z_aload_n (n := 1) dX4_value_0 rfl rfl ?_
  refine Z_iload_n (n := 2) dX4_value_1 rfl rfl ?_
  refine Z_callVi (n := 5) [_] _ dX4_value_2 rfl cwX4_223 rfl rfl rfl (Nat.le_of_ble_eq_true rfl) (by refine ⟨?_, ?_, ?_, ?_⟩ <;> exact Nat.le_of_ble_eq_true rfl) (fun _ h => h) (zX4_isFunction  ) ?_
  intro x2 M2 J2 z2 f2 q2
  obtain ⟨e2_1, e2_2, h2⟩ := q2
  replace e2_1 := e2_1.symm; subst e2_1
  replace e2_2 := e2_2.symm; subst e2_2
  refine Z_if_ne (n := 8) (t := 10) dX4_value_5 rfl (by decide) (fun c5 => ?_) (fun c5 => ?_)
  · refine Z_iload_n (n := 11) dX4_value_10 rfl rfl ?_
    refine Z_iconst (n := 12) dX4_value_11 rfl (by decide) ?_
    refine Z_sipush (n := 15) dX4_value_12 rfl (by decide) (by decide) ?_
    refine Z_callSi (n := 18) [_, _, _] _ dX4_value_15 rfl cwX4_112 rfl rfl (Nat.le_of_ble_eq_true rfl) (by refine ⟨?_, ?_, ?_, ?_⟩ <;> exact Nat.le_of_ble_eq_true rfl) (fun _ h => h) (zX4_in  ) ?_
    intro x15 M15 J15 z15 f15 q15
    obtain ⟨e15_1, e15_2, h15⟩ := q15
    replace e15_1 := e15_1.symm; subst e15_1
    replace e15_2 := e15_2.symm; subst e15_2
    refine Z_if_ne (n := 21) (t := 24) dX4_value_18 rfl (by decide) (fun c18 => ?_) (fun c18 => ?_)
    · refine Z_aload_n (n := 25) dX4_value_24 rfl rfl ?_
      refine Z_iload_n (n := 26) dX4_value_25 rfl rfl ?_
      refine Z_aload_n (n := 27) dX4_value_26 rfl rfl ?_
      refine Z_iload_n (n := 28) dX4_value_27 rfl rfl ?_
      refine Z_callVi (n := 31) [_] _ dX4_value_28 rfl cwX4_237 rfl rfl rfl (Nat.le_of_ble_eq_true rfl) (by refine ⟨?_, ?_, ?_, ?_⟩ <;> exact Nat.le_of_ble_eq_true rfl) (fun _ h => h) (zX4_stands  ) ?_
      intro x28 M28 J28 z28 f28 q28
      obtain ⟨e28_1, e28_2, h28⟩ := q28
      replace e28_1 := e28_1.symm; subst e28_1
      replace e28_2 := e28_2.symm; subst e28_2
      have hst := stF_256 (M 38) a (n := 8) (by omega)
      rw [← h28] at hst
      refine Z_callVi (n := 34) [_, _] _ dX4_value_31 rfl cwX4_240 rfl rfl rfl (Nat.le_of_ble_eq_true rfl) (by refine ⟨?_, ?_, ?_, ?_⟩ <;> exact Nat.le_of_ble_eq_true rfl) (fun _ h => h) (zX4_bit  (by first | assumption | omega | decide) (by first | assumption | omega | decide) (by first | assumption | omega | decide) (by first | assumption | omega | decide)) ?_
      intro x31 M31 J31 z31 f31 q31
      obtain ⟨e31_1, e31_2, h31⟩ := q31
      replace e31_1 := e31_1.symm; subst e31_1
      replace e31_2 := e31_2.symm; subst e31_2
      refine Z_if_eq (n := 37) (t := 41) dX4_value_34 rfl (by decide) (fun c34 => ?_) (fun c34 => ?_)
      · refine Z_iconst (n := 42) dX4_value_41 rfl (by decide) ?_
        refine Z_iret dX4_value_42 rfl ?_
        have eb := btF_in (bitF J f) x28
        have ep : vF (phi J f) (M 38) a = x31 := by
          show btF (bitF J f) (pos (aR (M 38) a)) = x31
          rw [h31, h28, stF_pos]
        refine ⟨rfl, rfl, Or.inr (Or.inr ⟨by omega, by omega, by omega, ?_⟩)⟩
        rw [ep]
        omega
      · refine Z_iconst (n := 38) dX4_value_37 rfl (by decide) ?_
        refine Z_goto (t := 42) dX4_value_38 (by decide) ?_
        refine Z_iret dX4_value_42 rfl ?_
        have eb := btF_in (bitF J f) x28
        have ep : vF (phi J f) (M 38) a = x31 := by
          show btF (bitF J f) (pos (aR (M 38) a)) = x31
          rw [h31, h28, stF_pos]
        refine ⟨rfl, rfl, Or.inr (Or.inr ⟨by omega, by omega, by omega, ?_⟩)⟩
        rw [ep]
        omega
    · refine Z_bipush (n := 23) dX4_value_21 rfl (by decide) (by decide) ?_
      refine Z_iret dX4_value_23 rfl ?_
      exact ⟨rfl, rfl, Or.inr (Or.inl ⟨by omega, by omega, rfl⟩)⟩
  · refine Z_iconst (n := 9) dX4_value_8 rfl (by decide) ?_
    refine Z_iret dX4_value_9 rfl ?_
    exact ⟨rfl, rfl, Or.inl ⟨by omega, rfl⟩⟩
set_option maxRecDepth 20000 in
theorem zX3_count_f {G : tl_G} {M : zM} {J : zJ} {f : Int} (hb : CB M) : ZN G yX3_count mX3_count 2 kAll [vR 0, vI f] F1 M J (qI (fun x M' J' => M' = M ∧ J' = J ∧ (((f < 0 ∨ 12 ≤ f ∨ M 12 f = -1) ∧ x = -1) ∨ (¬ (f < 0 ∨ 12 ≤ f ∨ M 12 f = -1) ∧ x = hr (vF (den M (M 12 f)) (M 3)) 256)))) := by
  refine ZN_of (L := [_, _, _, _]) (by decide) rfl rfl (Nat.le_of_ble_eq_true rfl) rfl (fun hav => ?_)
  obtain ⟨⟨Sb, hSb, hRb⟩, -⟩ := hb
  refine Z_aload_n (n := 1) dX3_count_0 rfl rfl ?_
  refine Z_iload_n (n := 2) dX3_count_1 rfl rfl ?_
  refine Z_callVi (n := 5) [_] _ dX3_count_2 rfl cwX3_139 rfl rfl (by first | rfl | exact nS0 (nA_at (by omega) (by omega))) (Nat.le_of_ble_eq_true rfl) (by refine ⟨?_, ?_, ?_, ?_⟩ <;> exact Nat.le_of_ble_eq_true rfl) (fun _ h => h) (zX3_hasFunction  ) ?_
  intro x2 M2 J2 z2 f2 q2
  obtain ⟨e2_1, e2_2, h2⟩ := q2
  replace e2_1 := e2_1.symm; subst e2_1
  replace e2_2 := e2_2.symm; subst e2_2
  refine Z_if_ne (n := 8) (t := 10) dX3_count_5 rfl (by decide) (fun c5 => ?_) (fun c5 => ?_)
  · have okf : okN Sb (M 12 f) := (hRb _ (Or.inl ⟨f, ⟨by omega, by omega⟩, rfl⟩)).resolve_left (by omega)
    refine Z_iconst (n := 11) dX3_count_10 rfl (by decide) ?_
    refine Z_istore_n (L' := [_, _, _, _]) (n := 12) dX3_count_11 rfl (by decide) rfl rfl ?_
    refine Z_iconst (n := 13) dX3_count_12 rfl (by decide) ?_
    refine Z_istore_n (L' := [_, _, _, _]) (n := 14) dX3_count_13 rfl (by decide) rfl rfl ?_
    have lp14 : ∀ (N14 : Nat) (n a : Int) , ((256 - a).toNat) < N14 → (0 ≤ a) → (a ≤ 256) → (0 ≤ n) → (n ≤ a) → (n = hr (vF (den M (M 12 f)) (M 3)) a.toNat) → TZ G mX3_count (tl_rm 2 0 0) 0 0 kAll M J 14 [some (vR 0), some (vI f), some (vI n), some (vI a)] [] F1 M J (ZM G (zPost G kAll F1 M J (qI (fun x M' J' => M' = M ∧ J' = J ∧ (((f < 0 ∨ 12 ≤ f ∨ M 12 f = -1) ∧ x = -1) ∨ (¬ (f < 0 ∨ 12 ≤ f ∨ M 12 f = -1) ∧ x = hr (vF (den M (M 12 f)) (M 3)) 256))))) 0 0) := by
      intro N14
      induction N14 with
      | zero => intro n a  hN; omega
      | succ N14 ih14 =>
        intro n a  hN14 i14_0 i14_1 i14_2 i14_3 i14_4
        refine Z_iload_n (n := 15) dX3_count_14 rfl rfl ?_
        refine Z_sipush (n := 18) dX3_count_15 rfl (by decide) (by decide) ?_
        refine Z_icmp_ge (n := 21) (t := 48) dX3_count_18 rfl (by decide) (fun c18 => ?_) (fun c18 => ?_)
        · refine Z_iload_n (n := 49) dX3_count_48 rfl rfl ?_
          refine Z_iret dX3_count_49 rfl ?_
          refine ⟨rfl, rfl, Or.inr ⟨by omega, ?_⟩⟩
          rw [i14_4, show a = 256 by omega]
          rfl
        · refine Z_iload_n (n := 22) dX3_count_21 rfl rfl ?_
          refine Z_aload_n (n := 23) dX3_count_22 rfl rfl ?_
          refine Z_getO (n := 26) dX3_count_23 rfl ffX3_25 (by first | rfl | exact nS0 (nA_at (by omega) (by omega))) (by first | rfl | exact nS0 (nA_at (by omega) (by omega))) ?_
          refine Z_aload_n (n := 27) dX3_count_26 rfl rfl ?_
          refine Z_getA (n := 30) dX3_count_27 rfl ffX3_29 (by first | rfl | exact nS0 (nA_at (by omega) (by omega))) (by first | rfl | exact nS0 (nA_at (by omega) (by omega))) ?_
          refine Z_iload_n (n := 31) dX3_count_30 rfl rfl ?_
          refine Z_iald (n := 32) dX3_count_31 rfl (by first | rfl | exact nS0 (nA_at (by omega) (by omega))) rfl (by first | decide | assumption) (by omega) (by omega) (fun r31 s31 => ?_)
          refine Z_iload_n (n := 33) dX3_count_32 rfl rfl ?_
          refine Z_aload_n (n := 34) dX3_count_33 rfl rfl ?_
          refine Z_getO (n := 37) dX3_count_34 rfl ffX3_18 (by first | rfl | exact nS0 (nA_at (by omega) (by omega))) (by first | rfl | exact nS0 (nA_at (by omega) (by omega))) ?_
          refine Z_callVi (n := 40) [_, _, _] _ dX3_count_37 rfl cwX3_164 rfl rfl (by first | rfl | exact nS0 (nA_at (by omega) (by omega))) (Nat.le_of_ble_eq_true rfl) (by refine ⟨?_, ?_, ?_, ?_⟩ <;> exact Nat.le_of_ble_eq_true rfl) (fun _ h => h) (zX2_valueFor_f  (by exact hSb.1) (by exact okf)) ?_
          intro x37 M37 J37 z37 f37 q37
          obtain ⟨e37_1, e37_2, h37⟩ := q37
          replace e37_1 := e37_1.symm; subst e37_1
          replace e37_2 := e37_2.symm; subst e37_2
          have db : x37 = 0 ∨ x37 = 1 := by rw [h37]; exact den_bool hSb.1 okf (aR (M 3) a)
          have nx4 : n + x37 = hr (vF (den M (M 12 f)) (M 3)) (a + 1).toNat := by
            have z := hr_up (vF (den M (M 12 f)) (M 3)) (i := a) (by omega)
            rcases db with e | e
            · have nz : vF (den M (M 12 f)) (M 3) a = 0 := h37.symm.trans e
              rw [if_pos nz] at z; omega
            · have nz : ¬ vF (den M (M 12 f)) (M 3) a = 0 := by rw [← h37, e]; decide
              rw [if_neg nz] at z; omega
          refine Z_iadd (n := 41) dX3_count_40 rfl (by omega) ?_
          refine Z_istore_n (L' := [_, _, _, _]) (n := 42) dX3_count_41 rfl (by decide) rfl rfl ?_
          refine Z_iinc (L' := [_, _, _, _]) (n := 45) dX3_count_42 rfl rfl (by decide) rfl rfl (by omega) rfl ?_
          refine Z_goto (t := 14) dX3_count_45 (by decide) ?_
          refine Z_loc (L' := [some _, some _, some _, some _]) (lsub_same (lsub_same (lsub_same (lsub_same lsub_nil)))) ?_
          exact ih14 _ _  (by omega) (by first | assumption | omega | decide) (by first | assumption | omega | decide) (by first | assumption | omega | decide) (by first | assumption | omega | decide) (by exact nx4)
    refine Z_loc (L' := [some _, some _, some _, some _]) (lsub_same (lsub_same (lsub_same (lsub_same lsub_nil)))) ?_
    exact lp14 _ _ _  (Nat.lt_succ_self _) (by first | assumption | omega | decide) (by first | assumption | omega | decide) (by first | assumption | omega | decide) (by first | assumption | omega | decide) (by rfl)
  · refine Z_iconst (n := 9) dX3_count_8 rfl (by decide) ?_
    refine Z_iret dX3_count_9 rfl ?_
    exact ⟨rfl, rfl, Or.inl ⟨by omega, rfl⟩⟩
set_option maxRecDepth 20000 in
theorem zX4_count_g {G : tl_G} {M : zM} {J : zJ} {f : Int}  : ZN G yX4_count mX4_count 3 kAll [vR 31, vI f] F1 M J (qI (fun x M' J' => M' = M ∧ J' = J ∧ (((f < 0 ∨ 12 ≤ f ∨ M 43 f = 0) ∧ x = -1) ∨ (¬ (f < 0 ∨ 12 ≤ f ∨ M 43 f = 0) ∧ x = hr (btF (bitF J f)) 256)))) := by
  refine ZN_of (L := [_, _, _, _]) (by decide) rfl rfl (Nat.le_of_ble_eq_true rfl) rfl (fun hav => ?_)
  refine Z_aload_n (n := 1) dX4_count_0 rfl rfl ?_
  refine Z_iload_n (n := 2) dX4_count_1 rfl rfl ?_
  refine Z_callVi (n := 5) [_] _ dX4_count_2 rfl cwX4_223 rfl rfl rfl (Nat.le_of_ble_eq_true rfl) (by refine ⟨?_, ?_, ?_, ?_⟩ <;> exact Nat.le_of_ble_eq_true rfl) (fun _ h => h) (zX4_isFunction  ) ?_
  intro x2 M2 J2 z2 f2 q2
  obtain ⟨e2_1, e2_2, h2⟩ := q2
  replace e2_1 := e2_1.symm; subst e2_1
  replace e2_2 := e2_2.symm; subst e2_2
  refine Z_if_ne (n := 8) (t := 10) dX4_count_5 rfl (by decide) (fun c5 => ?_) (fun c5 => ?_)
  · refine Z_iconst (n := 11) dX4_count_10 rfl (by decide) ?_
    refine Z_istore_n (L' := [_, _, _, _]) (n := 12) dX4_count_11 rfl (by decide) rfl rfl ?_
    refine Z_iconst (n := 13) dX4_count_12 rfl (by decide) ?_
    refine Z_istore_n (L' := [_, _, _, _]) (n := 14) dX4_count_13 rfl (by decide) rfl rfl ?_
    have lp14 : ∀ (N14 : Nat) (n p : Int) , ((256 - p).toNat) < N14 → (0 ≤ p) → (p ≤ 256) → (0 ≤ n) → (n ≤ p) → (n = hr (btF (bitF J f)) p.toNat) → TZ G mX4_count (tl_rm 3 0 0) 0 0 kAll M J 14 [some (vR 31), some (vI f), some (vI n), some (vI p)] [] F1 M J (ZM G (zPost G kAll F1 M J (qI (fun x M' J' => M' = M ∧ J' = J ∧ (((f < 0 ∨ 12 ≤ f ∨ M 43 f = 0) ∧ x = -1) ∨ (¬ (f < 0 ∨ 12 ≤ f ∨ M 43 f = 0) ∧ x = hr (btF (bitF J f)) 256))))) 0 0) := by
      intro N14
      induction N14 with
      | zero => intro n p  hN; omega
      | succ N14 ih14 =>
        intro n p  hN14 i14_0 i14_1 i14_2 i14_3 i14_4
        refine Z_iload_n (n := 15) dX4_count_14 rfl rfl ?_
        refine Z_sipush (n := 18) dX4_count_15 rfl (by decide) (by decide) ?_
        refine Z_icmp_ge (n := 21) (t := 44) dX4_count_18 rfl (by decide) (fun c18 => ?_) (fun c18 => ?_)
        · refine Z_iload_n (n := 45) dX4_count_44 rfl rfl ?_
          refine Z_iret dX4_count_45 rfl ?_
          refine ⟨rfl, rfl, Or.inr ⟨by omega, ?_⟩⟩
          rw [i14_4, show p = 256 by omega]
          rfl
        · refine Z_iload_n (n := 22) dX4_count_21 rfl rfl ?_
          refine Z_aload_n (n := 23) dX4_count_22 rfl rfl ?_
          refine Z_iload_n (n := 24) dX4_count_23 rfl rfl ?_
          refine Z_iload_n (n := 25) dX4_count_24 rfl rfl ?_
          refine Z_callVi (n := 28) [_, _] _ dX4_count_25 rfl cwX4_240 rfl rfl rfl (Nat.le_of_ble_eq_true rfl) (by refine ⟨?_, ?_, ?_, ?_⟩ <;> exact Nat.le_of_ble_eq_true rfl) (fun _ h => h) (zX4_bit  (by first | assumption | omega | decide) (by first | assumption | omega | decide) (by first | assumption | omega | decide) (by first | assumption | omega | decide)) ?_
          intro x25 M25 J25 z25 f25 q25
          obtain ⟨e25_1, e25_2, h25⟩ := q25
          replace e25_1 := e25_1.symm; subst e25_1
          replace e25_2 := e25_2.symm; subst e25_2
          refine Z_if_eq (n := 31) (t := 35) dX4_count_28 rfl (by decide) (fun c28 => ?_) (fun c28 => ?_)
          · have nx4 : n + 0 = hr (btF (bitF J f)) (p + 1).toNat := by
              have z := hr_up (btF (bitF J f)) (i := p) (by omega)
              have nz : btF (bitF J f) p = 0 := h25.symm.trans c28
              rw [if_pos nz] at z
              omega
            refine Z_iconst (n := 36) dX4_count_35 rfl (by decide) ?_
            refine Z_iadd (n := 37) dX4_count_36 rfl (by omega) ?_
            refine Z_istore_n (L' := [_, _, _, _]) (n := 38) dX4_count_37 rfl (by decide) rfl rfl ?_
            refine Z_iinc (L' := [_, _, _, _]) (n := 41) dX4_count_38 rfl rfl (by decide) rfl rfl (by omega) rfl ?_
            refine Z_goto (t := 14) dX4_count_41 (by decide) ?_
            refine Z_loc (L' := [some _, some _, some _, some _]) (lsub_same (lsub_same (lsub_same (lsub_same lsub_nil)))) ?_
            exact ih14 _ _  (by omega) (by first | assumption | omega | decide) (by first | assumption | omega | decide) (by first | assumption | omega | decide) (by first | assumption | omega | decide) (by exact nx4)
          · have nx4 : n + 1 = hr (btF (bitF J f)) (p + 1).toNat := by
              have z := hr_up (btF (bitF J f)) (i := p) (by omega)
              have nz : ¬ btF (bitF J f) p = 0 := fun t => c28 (h25.trans t)
              rw [if_neg nz] at z
              omega
            refine Z_iconst (n := 32) dX4_count_31 rfl (by decide) ?_
            refine Z_goto (t := 36) dX4_count_32 (by decide) ?_
            refine Z_iadd (n := 37) dX4_count_36 rfl (by omega) ?_
            refine Z_istore_n (L' := [_, _, _, _]) (n := 38) dX4_count_37 rfl (by decide) rfl rfl ?_
            refine Z_iinc (L' := [_, _, _, _]) (n := 41) dX4_count_38 rfl rfl (by decide) rfl rfl (by omega) rfl ?_
            refine Z_goto (t := 14) dX4_count_41 (by decide) ?_
            refine Z_loc (L' := [some _, some _, some _, some _]) (lsub_same (lsub_same (lsub_same (lsub_same lsub_nil)))) ?_
            exact ih14 _ _  (by omega) (by first | assumption | omega | decide) (by first | assumption | omega | decide) (by first | assumption | omega | decide) (by first | assumption | omega | decide) (by exact nx4)
    refine Z_loc (L' := [some _, some _, some _, some _]) (lsub_same (lsub_same (lsub_same (lsub_same lsub_nil)))) ?_
    exact lp14 _ _ _  (Nat.lt_succ_self _) (by first | assumption | omega | decide) (by first | assumption | omega | decide) (by first | assumption | omega | decide) (by first | assumption | omega | decide) (by rfl)
  · refine Z_iconst (n := 9) dX4_count_8 rfl (by decide) ?_
    refine Z_iret dX4_count_9 rfl ?_
    exact ⟨rfl, rfl, Or.inl ⟨by omega, rfl⟩⟩
set_option maxRecDepth 20000 in
theorem zX4_hangs_f {G : tl_G} {M : zM} {J : zJ} {f pl : Int} (f0 : 0 ≤ f) (f1 : f < 56) (p0 : 0 ≤ pl) (p1 : pl < 8) : ZN G yX4_hangs mX4_hangs 1 kAll [vR 31, vI f, vI pl] F1 M J (qI (fun x M' J' => M' = M ∧ J' = J ∧ ((x = 1 ∧ hgF (phi J f) pl) ∨ (x = 0 ∧ ¬ hgF (phi J f) pl)))) := by
  refine ZN_of (L := [_, _, _, _, _, _]) (by decide) rfl rfl (Nat.le_of_ble_eq_true rfl) rfl (fun hav => ?_)
  have hz7 := zshl1 (d := 7 - pl) (by omega) (by omega)
  refine Z_iconst (n := 1) dX4_hangs_0 rfl (by decide) ?_
  refine Z_istore_n (L' := [_, _, _, _, _, _]) (n := 2) dX4_hangs_1 rfl (by decide) rfl rfl ?_
  refine Z_iconst (n := 3) dX4_hangs_2 rfl (by decide) ?_
  refine Z_bipush (n := 5) dX4_hangs_3 rfl (by decide) (by decide) ?_
  refine Z_iload_n (n := 6) dX4_hangs_5 rfl rfl ?_
  refine Z_isub (n := 7) dX4_hangs_6 rfl (by omega) ?_
  refine Z_ishl (n := 8) dX4_hangs_7 rfl ?_
  refine Z_istore (L' := [_, _, _, _, _, _]) (n := 10) dX4_hangs_8 rfl (by decide) rfl rfl ?_
  refine Z_iconst (n := 11) dX4_hangs_10 rfl (by decide) ?_
  refine Z_istore (L' := [_, _, _, _, _, _]) (n := 13) dX4_hangs_11 rfl (by decide) rfl rfl ?_
  have lp13 : ∀ (N13 : Nat) (e p : Int) , ((256 - p).toNat) < N13 → (0 ≤ p) → (p ≤ 256) → ((e = 1 ∧ hgP (bitF J f) pl) ∨ (e = 0 ∧ ∀ q : Int, 0 ≤ q → q < p → btF (bitF J f) q = btF (bitF J f) (zxor q (zshl 1 (7 - pl))))) → TZ G mX4_hangs (tl_rm 1 0 0) 0 0 kAll M J 13 [some (vR 31), some (vI f), some (vI pl), some (vI e), some (vI (zshl 1 (7 - pl))), some (vI p)] [] F1 M J (ZM G (zPost G kAll F1 M J (qI (fun x M' J' => M' = M ∧ J' = J ∧ ((x = 1 ∧ hgF (phi J f) pl) ∨ (x = 0 ∧ ¬ hgF (phi J f) pl))))) 0 0) := by
    intro N13
    induction N13 with
    | zero => intro e p  hN; omega
    | succ N13 ih13 =>
      intro e p  hN13 i13_0 i13_1 i13_2
      refine Z_iload (n := 15) dX4_hangs_13 rfl rfl ?_
      refine Z_sipush (n := 18) dX4_hangs_15 rfl (by decide) (by decide) ?_
      refine Z_icmp_ge (n := 21) (t := 57) dX4_hangs_18 rfl (by decide) (fun c18 => ?_) (fun c18 => ?_)
      · refine Z_iload_n (n := 58) dX4_hangs_57 rfl rfl ?_
        refine Z_zret dX4_hangs_58 rfl (by omega) (by omega) ?_
        refine ⟨rfl, rfl, ?_⟩
        rcases i13_2 with ⟨a, b⟩ | ⟨a, b⟩
        · exact Or.inl ⟨a, (hg_pos p0 p1).mp b⟩
        · refine Or.inr ⟨a, fun t => ?_⟩
          obtain ⟨q, qb, w⟩ := (hg_pos p0 p1).mpr t
          exact w (b q qb.1 (by omega))
      · refine Z_iload_n (n := 22) dX4_hangs_21 rfl rfl ?_
        refine Z_if_ne (n := 25) (t := 45) dX4_hangs_22 rfl (by decide) (fun c22 => ?_) (fun c22 => ?_)
        · have nx : ((1 : Int) = 1 ∧ hgP (bitF J f) pl) ∨ ((1 : Int) = 0 ∧ ∀ q : Int, 0 ≤ q → q < p + 1 → btF (bitF J f) q = btF (bitF J f) (zxor q (zshl 1 (7 - pl)))) := Or.inl ⟨rfl, (i13_2.resolve_right (fun t => c22 t.1)).2⟩
          refine Z_iconst (n := 46) dX4_hangs_45 rfl (by decide) ?_
          refine Z_goto (t := 50) dX4_hangs_46 (by decide) ?_
          refine Z_istore_n (L' := [_, _, _, _, _, _]) (n := 51) dX4_hangs_50 rfl (by decide) rfl rfl ?_
          refine Z_iinc (L' := [_, _, _, _, _, _]) (n := 54) dX4_hangs_51 rfl rfl (by decide) rfl rfl (by omega) rfl ?_
          refine Z_goto (t := 13) dX4_hangs_54 (by decide) ?_
          refine Z_loc (L' := [some _, some _, some _, some _, some _, some _]) (lsub_same (lsub_same (lsub_same (lsub_same (lsub_same (lsub_same lsub_nil)))))) ?_
          exact ih13 _ _  (by omega) (by first | assumption | omega | decide) (by first | assumption | omega | decide) (by exact nx)
        · refine Z_aload_n (n := 26) dX4_hangs_25 rfl rfl ?_
          refine Z_iload_n (n := 27) dX4_hangs_26 rfl rfl ?_
          refine Z_iload (n := 29) dX4_hangs_27 rfl rfl ?_
          refine Z_callVi (n := 32) [_, _] _ dX4_hangs_29 rfl cwX4_240 rfl rfl rfl (Nat.le_of_ble_eq_true rfl) (by refine ⟨?_, ?_, ?_, ?_⟩ <;> exact Nat.le_of_ble_eq_true rfl) (fun _ h => h) (zX4_bit  (by first | assumption | omega | decide) (by first | assumption | omega | decide) (by first | assumption | omega | decide) (by first | assumption | omega | decide)) ?_
          intro x29 M29 J29 z29 f29 q29
          obtain ⟨e29_1, e29_2, h29⟩ := q29
          replace e29_1 := e29_1.symm; subst e29_1
          replace e29_2 := e29_2.symm; subst e29_2
          refine Z_aload_n (n := 33) dX4_hangs_32 rfl rfl ?_
          refine Z_iload_n (n := 34) dX4_hangs_33 rfl rfl ?_
          refine Z_iload (n := 36) dX4_hangs_34 rfl rfl ?_
          refine Z_iload (n := 38) dX4_hangs_36 rfl rfl ?_
          refine Z_ixor (n := 39) dX4_hangs_38 rfl ?_
          have hzx := zxor_in (x := p) (y := zshl 1 (7 - pl)) (by omega) (by omega) (by omega) (by omega)
          refine Z_callVi (n := 42) [_, _] _ dX4_hangs_39 rfl cwX4_240 rfl rfl rfl (Nat.le_of_ble_eq_true rfl) (by refine ⟨?_, ?_, ?_, ?_⟩ <;> exact Nat.le_of_ble_eq_true rfl) (fun _ h => h) (zX4_bit  (by first | assumption | omega | decide) (by first | assumption | omega | decide) (by first | assumption | omega | decide) (by first | assumption | omega | decide)) ?_
          intro x39 M39 J39 z39 f39 q39
          obtain ⟨e39_1, e39_2, h39⟩ := q39
          replace e39_1 := e39_1.symm; subst e39_1
          replace e39_2 := e39_2.symm; subst e39_2
          refine Z_icmp_eq (n := 45) (t := 49) dX4_hangs_42 rfl (by decide) (fun c42 => ?_) (fun c42 => ?_)
          · have nx : ((0 : Int) = 1 ∧ hgP (bitF J f) pl) ∨ ((0 : Int) = 0 ∧ ∀ q : Int, 0 ≤ q → q < p + 1 → btF (bitF J f) q = btF (bitF J f) (zxor q (zshl 1 (7 - pl)))) := Or.inr ⟨rfl, fun q a b => by
              have z := (i13_2.resolve_left (fun t => by omega)).2
              by_cases w : q = p
              · rw [w, ← h29, ← h39]; exact c42
              · exact z q a (by omega)⟩
            refine Z_iconst (n := 50) dX4_hangs_49 rfl (by decide) ?_
            refine Z_istore_n (L' := [_, _, _, _, _, _]) (n := 51) dX4_hangs_50 rfl (by decide) rfl rfl ?_
            refine Z_iinc (L' := [_, _, _, _, _, _]) (n := 54) dX4_hangs_51 rfl rfl (by decide) rfl rfl (by omega) rfl ?_
            refine Z_goto (t := 13) dX4_hangs_54 (by decide) ?_
            refine Z_loc (L' := [some _, some _, some _, some _, some _, some _]) (lsub_same (lsub_same (lsub_same (lsub_same (lsub_same (lsub_same lsub_nil)))))) ?_
            exact ih13 _ _  (by omega) (by first | assumption | omega | decide) (by first | assumption | omega | decide) (by exact nx)
          · have nx : ((1 : Int) = 1 ∧ hgP (bitF J f) pl) ∨ ((1 : Int) = 0 ∧ ∀ q : Int, 0 ≤ q → q < p + 1 → btF (bitF J f) q = btF (bitF J f) (zxor q (zshl 1 (7 - pl)))) := Or.inl ⟨rfl, p, ⟨by omega, by omega⟩, fun t => c42 (by rw [h29, h39]; exact t)⟩
            refine Z_iconst (n := 46) dX4_hangs_45 rfl (by decide) ?_
            refine Z_goto (t := 50) dX4_hangs_46 (by decide) ?_
            refine Z_istore_n (L' := [_, _, _, _, _, _]) (n := 51) dX4_hangs_50 rfl (by decide) rfl rfl ?_
            refine Z_iinc (L' := [_, _, _, _, _, _]) (n := 54) dX4_hangs_51 rfl rfl (by decide) rfl rfl (by omega) rfl ?_
            refine Z_goto (t := 13) dX4_hangs_54 (by decide) ?_
            refine Z_loc (L' := [some _, some _, some _, some _, some _, some _]) (lsub_same (lsub_same (lsub_same (lsub_same (lsub_same (lsub_same lsub_nil)))))) ?_
            exact ih13 _ _  (by omega) (by first | assumption | omega | decide) (by first | assumption | omega | decide) (by exact nx)
  refine Z_loc (L' := [some _, some _, some _, some _, some _, some _]) (lsub_same (lsub_same (lsub_same (lsub_same (lsub_same (lsub_same lsub_nil)))))) ?_
  exact lp13 _ _ _  (Nat.lt_succ_self _) (by first | assumption | omega | decide) (by first | assumption | omega | decide) (by exact Or.inr ⟨rfl, fun q a b => by omega⟩)
set_option maxRecDepth 20000 in
theorem zX3_top_f {G : tl_G} {M : zM} {J : zJ} {f : Int}  : ZN G yX3_top mX3_top 2 kAll [vR 0, vI f] F1 M J (qI (fun x M' J' => M' = M ∧ J' = J ∧ (((f < 0 ∨ 12 ≤ f ∨ M 12 f = -1) ∧ x = -1) ∨ (¬ (f < 0 ∨ 12 ≤ f ∨ M 12 f = -1) ∧ ((M 6 (M 12 f) < 8 ∧ x = M 3 (M 6 (M 12 f))) ∨ (8 ≤ M 6 (M 12 f) ∧ x = -9)))))) := by
  refine ZN_of (L := [_, _, _]) (by decide) rfl rfl (Nat.le_of_ble_eq_true rfl) rfl (fun hav => ?_)
  refine Z_aload_n (n := 1) dX3_top_0 rfl rfl ?_
  refine Z_iload_n (n := 2) dX3_top_1 rfl rfl ?_
  refine Z_callVi (n := 5) [_] _ dX3_top_2 rfl cwX3_139 rfl rfl (by first | rfl | exact nS0 (nA_at (by omega) (by omega))) (Nat.le_of_ble_eq_true rfl) (by refine ⟨?_, ?_, ?_, ?_⟩ <;> exact Nat.le_of_ble_eq_true rfl) (fun _ h => h) (zX3_hasFunction  ) ?_
  intro x2 M2 J2 z2 f2 q2
  obtain ⟨e2_1, e2_2, h2⟩ := q2
  replace e2_1 := e2_1.symm; subst e2_1
  replace e2_2 := e2_2.symm; subst e2_2
  refine Z_if_ne (n := 8) (t := 10) dX3_top_5 rfl (by decide) (fun c5 => ?_) (fun c5 => ?_)
  · refine Z_aload_n (n := 11) dX3_top_10 rfl rfl ?_
    refine Z_getO (n := 14) dX3_top_11 rfl ffX3_25 (by first | rfl | exact nS0 (nA_at (by omega) (by omega))) (by first | rfl | exact nS0 (nA_at (by omega) (by omega))) ?_
    refine Z_aload_n (n := 15) dX3_top_14 rfl rfl ?_
    refine Z_getA (n := 18) dX3_top_15 rfl ffX3_29 (by first | rfl | exact nS0 (nA_at (by omega) (by omega))) (by first | rfl | exact nS0 (nA_at (by omega) (by omega))) ?_
    refine Z_iload_n (n := 19) dX3_top_18 rfl rfl ?_
    refine Z_iald (n := 20) dX3_top_19 rfl (by first | rfl | exact nS0 (nA_at (by omega) (by omega))) rfl (by first | decide | assumption) (by omega) (by omega) (fun r19 s19 => ?_)
    refine Z_callVi (n := 23) [_] _ dX3_top_20 rfl cwX3_171 rfl rfl (by first | rfl | exact nS0 (nA_at (by omega) (by omega))) (Nat.le_of_ble_eq_true rfl) (by refine ⟨?_, ?_, ?_, ?_⟩ <;> exact Nat.le_of_ble_eq_true rfl) (fun _ h => h) (zX2_placeOf  (by first | assumption | omega | decide) (by first | assumption | omega | decide)) ?_
    intro x20 M20 J20 z20 f20 q20
    obtain ⟨e20_1, e20_2, h20⟩ := q20
    replace e20_1 := e20_1.symm; subst e20_1
    replace e20_2 := e20_2.symm; subst e20_2
    refine Z_istore_n (L' := [_, _, _]) (n := 24) dX3_top_23 rfl (by decide) rfl rfl ?_
    refine Z_iload_n (n := 25) dX3_top_24 rfl rfl ?_
    refine Z_bipush (n := 27) dX3_top_25 rfl (by decide) (by decide) ?_
    refine Z_icmp_ge (n := 30) (t := 41) dX3_top_27 rfl (by decide) (fun c27 => ?_) (fun c27 => ?_)
    · refine Z_bipush (n := 43) dX3_top_41 rfl (by decide) (by decide) ?_
      refine Z_iret dX3_top_43 rfl ?_
      first
        | exact ⟨rfl, rfl, Or.inr ⟨by omega, Or.inl ⟨by omega, by rw [h35, h20]⟩⟩⟩
        | exact ⟨rfl, rfl, Or.inr ⟨by omega, Or.inr ⟨by omega, rfl⟩⟩⟩
    · refine Z_aload_n (n := 31) dX3_top_30 rfl rfl ?_
      refine Z_getO (n := 34) dX3_top_31 rfl ffX3_18 (by first | rfl | exact nS0 (nA_at (by omega) (by omega))) (by first | rfl | exact nS0 (nA_at (by omega) (by omega))) ?_
      refine Z_iload_n (n := 35) dX3_top_34 rfl rfl ?_
      refine Z_rg 6 (M 12 f) rfl (fun g6 g6b => ?_)
      refine Z_callVi (n := 38) [_] _ dX3_top_35 rfl cwX3_114 rfl rfl (by first | rfl | exact nS0 (nA_at (by omega) (by omega))) (Nat.le_of_ble_eq_true rfl) (by refine ⟨?_, ?_, ?_, ?_⟩ <;> exact Nat.le_of_ble_eq_true rfl) (fun _ h => h) (zX1_variableAt  (by first | assumption | omega | decide) (by first | assumption | omega | decide)) ?_
      intro x35 M35 J35 z35 f35 q35
      obtain ⟨e35_1, e35_2, h35⟩ := q35
      replace e35_1 := e35_1.symm; subst e35_1
      replace e35_2 := e35_2.symm; subst e35_2
      refine Z_goto (t := 43) dX3_top_38 (by decide) ?_
      refine Z_iret dX3_top_43 rfl ?_
      first
        | exact ⟨rfl, rfl, Or.inr ⟨by omega, Or.inl ⟨by omega, by rw [h35, h20]⟩⟩⟩
        | exact ⟨rfl, rfl, Or.inr ⟨by omega, Or.inr ⟨by omega, rfl⟩⟩⟩
  · refine Z_iconst (n := 9) dX3_top_8 rfl (by decide) ?_
    refine Z_iret dX3_top_9 rfl ?_
    exact ⟨rfl, rfl, Or.inl ⟨by omega, rfl⟩⟩
def tpQ (F : FN) (o : Int → Int) (x : Int) : Prop := (∃ k : Int, (0 ≤ k ∧ k < 8) ∧ hgF F k ∧ (∀ j : Int, 0 ≤ j → j < k → ¬ hgF F j) ∧ x = o k) ∨ ((∀ j : Int, 0 ≤ j → j < 8 → ¬ hgF F j) ∧ x = -9)
set_option maxRecDepth 20000 in
theorem zX4_top_g {G : tl_G} {M : zM} {J : zJ} {f : Int}  : ZN G yX4_top mX4_top 3 kAll [vR 31, vI f] F1 M J (qI (fun x M' J' => M' = M ∧ J' = J ∧ (((f < 0 ∨ 12 ≤ f ∨ M 43 f = 0) ∧ x = -1) ∨ (¬ (f < 0 ∨ 12 ≤ f ∨ M 43 f = 0) ∧ tpQ (phi J f) (M 38) x)))) := by
  refine ZN_of (L := [_, _, _]) (by decide) rfl rfl (Nat.le_of_ble_eq_true rfl) rfl (fun hav => ?_)
  refine Z_aload_n (n := 1) dX4_top_0 rfl rfl ?_
  refine Z_iload_n (n := 2) dX4_top_1 rfl rfl ?_
  refine Z_callVi (n := 5) [_] _ dX4_top_2 rfl cwX4_223 rfl rfl rfl (Nat.le_of_ble_eq_true rfl) (by refine ⟨?_, ?_, ?_, ?_⟩ <;> exact Nat.le_of_ble_eq_true rfl) (fun _ h => h) (zX4_isFunction  ) ?_
  intro x2 M2 J2 z2 f2 q2
  obtain ⟨e2_1, e2_2, h2⟩ := q2
  replace e2_1 := e2_1.symm; subst e2_1
  replace e2_2 := e2_2.symm; subst e2_2
  refine Z_if_ne (n := 8) (t := 10) dX4_top_5 rfl (by decide) (fun c5 => ?_) (fun c5 => ?_)
  · refine Z_iconst (n := 11) dX4_top_10 rfl (by decide) ?_
    refine Z_istore_n (L' := [_, _, _]) (n := 12) dX4_top_11 rfl (by decide) rfl rfl ?_
    have lp12 : ∀ (N12 : Nat) (k : Int) , ((8 - k).toNat) < N12 → (0 ≤ k) → (k ≤ 8) → (∀ j : Int, 0 ≤ j → j < k → ¬ hgF (phi J f) j) → TZ G mX4_top (tl_rm 3 0 0) 0 0 kAll M J 12 [some (vR 31), some (vI f), some (vI k)] [] F1 M J (ZM G (zPost G kAll F1 M J (qI (fun x M' J' => M' = M ∧ J' = J ∧ (((f < 0 ∨ 12 ≤ f ∨ M 43 f = 0) ∧ x = -1) ∨ (¬ (f < 0 ∨ 12 ≤ f ∨ M 43 f = 0) ∧ tpQ (phi J f) (M 38) x))))) 0 0) := by
      intro N12
      induction N12 with
      | zero => intro k  hN; omega
      | succ N12 ih12 =>
        intro k  hN12 i12_0 i12_1 i12_2
        refine Z_iload_n (n := 13) dX4_top_12 rfl rfl ?_
        refine Z_bipush (n := 15) dX4_top_13 rfl (by decide) (by decide) ?_
        refine Z_icmp_ge (n := 18) (t := 40) dX4_top_15 rfl (by decide) (fun c15 => ?_) (fun c15 => ?_)
        · refine Z_bipush (n := 42) dX4_top_40 rfl (by decide) (by decide) ?_
          refine Z_iret dX4_top_42 rfl ?_
          exact ⟨rfl, rfl, Or.inr ⟨by omega, Or.inr ⟨fun j a b => i12_2 j a (by omega), rfl⟩⟩⟩
        · refine Z_aload_n (n := 19) dX4_top_18 rfl rfl ?_
          refine Z_iload_n (n := 20) dX4_top_19 rfl rfl ?_
          refine Z_iload_n (n := 21) dX4_top_20 rfl rfl ?_
          refine Z_callVi (n := 24) [_, _] _ dX4_top_21 rfl cwX4_243 rfl rfl rfl (Nat.le_of_ble_eq_true rfl) (by refine ⟨?_, ?_, ?_, ?_⟩ <;> exact Nat.le_of_ble_eq_true rfl) (fun _ h => h) (zX4_hangs_f  (by first | assumption | omega | decide) (by first | assumption | omega | decide) (by first | assumption | omega | decide) (by first | assumption | omega | decide)) ?_
          intro x21 M21 J21 z21 f21 q21
          obtain ⟨e21_1, e21_2, hg21⟩ := q21
          replace e21_1 := e21_1.symm; subst e21_1
          replace e21_2 := e21_2.symm; subst e21_2
          refine Z_if_eq (n := 27) (t := 34) dX4_top_24 rfl (by decide) (fun c24 => ?_) (fun c24 => ?_)
          · have nx : ∀ j : Int, 0 ≤ j → j < k + 1 → ¬ hgF (phi J f) j := fun j a b => by
              by_cases w : j = k
              · rw [w]; exact (hg21.resolve_left (fun t => by omega)).2
              · exact i12_2 j a (by omega)
            refine Z_iinc (L' := [_, _, _]) (n := 37) dX4_top_34 rfl rfl (by decide) rfl rfl (by omega) rfl ?_
            refine Z_goto (t := 12) dX4_top_37 (by decide) ?_
            refine Z_loc (L' := [some _, some _, some _]) (lsub_same (lsub_same (lsub_same lsub_nil))) ?_
            exact ih12 _  (by omega) (by first | assumption | omega | decide) (by first | assumption | omega | decide) (by exact nx)
          · refine Z_aload_n (n := 28) dX4_top_27 rfl rfl ?_
            refine Z_getA (n := 31) dX4_top_28 rfl ffX4_29 rfl rfl ?_
            refine Z_iload_n (n := 32) dX4_top_31 rfl rfl ?_
            refine Z_iald (n := 33) dX4_top_32 rfl rfl rfl (by first | decide | assumption) (by omega) (by omega) (fun r32 s32 => ?_)
            refine Z_iret dX4_top_33 rfl ?_
            exact ⟨rfl, rfl, Or.inr ⟨by omega, Or.inl ⟨k, ⟨by omega, by omega⟩, (hg21.resolve_right (fun t => by omega)).2, i12_2, rfl⟩⟩⟩
    refine Z_loc (L' := [some _, some _, some _]) (lsub_same (lsub_same (lsub_same lsub_nil))) ?_
    exact lp12 _ _  (Nat.lt_succ_self _) (by first | assumption | omega | decide) (by first | assumption | omega | decide) (by exact fun j a b => by omega)
  · refine Z_iconst (n := 9) dX4_top_8 rfl (by decide) ?_
    refine Z_iret dX4_top_9 rfl ?_
    exact ⟨rfl, rfl, Or.inl ⟨by omega, rfl⟩⟩
set_option maxRecDepth 20000 in
theorem zX2_nodeCountAt_f {G : tl_G} {M : zM} {J : zJ} {S : Int → Prop} {n p : Int} (hp : pst M S) (hn : n = -1 ∨ okN S n) : ZN G yX2_nodeCountAt mX2_nodeCountAt 10 kMarks [vR 5, vI n, vI p] F1 M J (qI (fun x M' J' => J' = J ∧ cnt (fun y => laid (den M n) y ∧ y.1 = p) x)) := by
  refine ZN_of (L := [_, _, _, _, _]) (by decide) rfl rfl (Nat.le_of_ble_eq_true rfl) rfl (fun hav => ?_)
  refine Z_aload_n (n := 1) dX2_nodeCountAt_0 rfl rfl ?_
  refine Z_callVv (n := 4) [] _ dX2_nodeCountAt_1 rfl cwX2_53 rfl rfl rfl (Nat.le_of_ble_eq_true rfl) (by refine ⟨?_, ?_, ?_, ?_⟩ <;> exact Nat.le_of_ble_eq_true rfl) (fun _ h => h) (zX2_unmark  (by decide)) ?_
  intro M1 J1 f1 q1
  obtain ⟨e1_1, e1_2⟩ := q1
  replace e1_1 := e1_1.symm; subst e1_1
  replace e1_2 := e1_2.symm; subst e1_2
  have o1 : ∀ a : Nat, ¬ a = 9 → fillz M 9 252 0 a = M a := fun a ha => fillz_o ha
  have z1 : ∀ m : Int, 0 ≤ m → m < 252 → fillz M 9 252 0 9 m = 0 := fun m a b => fillz_a a (by omega)
  have hp1 : pst (fillz M 9 252 0) S := pst_cg (o1 6 (by decide)) (o1 7 (by decide)) (o1 8 (by decide)) hp
  refine Z_aload_n (n := 5) dX2_nodeCountAt_4 rfl rfl ?_
  refine Z_iload_n (n := 6) dX2_nodeCountAt_5 rfl rfl ?_
  refine Z_callVv (n := 9) [_] _ dX2_nodeCountAt_6 rfl cwX2_56 rfl rfl rfl (Nat.le_of_ble_eq_true rfl) (by refine ⟨?_, ?_, ?_, ?_⟩ <;> exact Nat.le_of_ble_eq_true rfl) (fun _ h => h) (zX2_mark_f  (by exact hp1) (by exact hn) (by exact (c3_0 hp1 z1).2)) ?_
  intro M6 J6 f6 q6
  obtain ⟨e6_1, mr6⟩ := q6
  replace e6_1 := e6_1.symm; subst e6_1
  refine Z_iconst (n := 10) dX2_nodeCountAt_9 rfl (by decide) ?_
  refine Z_istore_n (L' := [_, _, _, _, _]) (n := 11) dX2_nodeCountAt_10 rfl (by decide) rfl rfl ?_
  refine Z_iconst (n := 12) dX2_nodeCountAt_11 rfl (by decide) ?_
  refine Z_istore (L' := [_, _, _, _, _]) (n := 14) dX2_nodeCountAt_12 rfl (by decide) rfl rfl ?_
  have lp14 : ∀ (N14 : Nat) (c i : Int) , ((252 - i).toNat) < N14 → (2 ≤ i) → (i ≤ 252) → (c = hr (ncF (M6 9) (M6 6) p) i.toNat) → (0 ≤ c) → (c ≤ i - 2) → TZ G mX2_nodeCountAt (tl_rm 10 0 0) 0 0 kMarks M J 14 [some (vR 5), some (vI n), some (vI p), some (vI c), some (vI i)] [] F1 M6 J (ZM G (zPost G kMarks F1 M J (qI (fun x M' J' => J' = J ∧ cnt (fun y => laid (den M n) y ∧ y.1 = p) x))) 0 0) := by
    intro N14
    induction N14 with
    | zero => intro c i  hN; omega
    | succ N14 ih14 =>
      intro c i  hN14 i14_0 i14_1 i14_2 i14_3 i14_4
      refine Z_iload (n := 16) dX2_nodeCountAt_14 rfl rfl ?_
      refine Z_sipush (n := 19) dX2_nodeCountAt_16 rfl (by decide) (by decide) ?_
      refine Z_icmp_ge (n := 22) (t := 52) dX2_nodeCountAt_19 rfl (by decide) (fun c19 => ?_) (fun c19 => ?_)
      · refine Z_iload_n (n := 53) dX2_nodeCountAt_52 rfl rfl ?_
        refine Z_iret dX2_nodeCountAt_53 rfl ?_
        have o6 : M6 6 = M 6 := ((f6 6 (by decide)).1).trans (o1 6 (by decide))
        refine ⟨rfl, cnt_at hp hn z1 (mkR_cg (o1 6 (by decide)) (o1 7 (by decide)) (o1 8 (by decide)) mr6) ?_⟩
        rw [i14_2, o6, show i = 252 by omega]
        rfl
      · refine Z_aload_n (n := 23) dX2_nodeCountAt_22 rfl rfl ?_
        refine Z_getA (n := 26) dX2_nodeCountAt_23 rfl ffX2_21 rfl rfl ?_
        refine Z_iload (n := 28) dX2_nodeCountAt_26 rfl rfl ?_
        refine Z_iald (n := 29) dX2_nodeCountAt_28 rfl rfl rfl (by first | decide | assumption) (by omega) (by omega) (fun r28 s28 => ?_)
        refine Z_if_eq (n := 32) (t := 46) dX2_nodeCountAt_29 rfl (by decide) (fun c29 => ?_) (fun c29 => ?_)
        · have nx : c = hr (ncF (M6 9) (M6 6) p) (i + 1).toNat := by
            have z := hr_up (ncF (M6 9) (M6 6) p) (i := i) (by omega)
            have nz : ncF (M6 9) (M6 6) p i = 0 := ind_f (fun q => q.1.2 c29)
            rw [if_pos nz] at z
            omega
          refine Z_iinc (L' := [_, _, _, _, _]) (n := 49) dX2_nodeCountAt_46 rfl rfl (by decide) rfl rfl (by omega) rfl ?_
          refine Z_goto (t := 14) dX2_nodeCountAt_49 (by decide) ?_
          refine Z_loc (L' := [some _, some _, some _, some _, some _]) (lsub_same (lsub_same (lsub_same (lsub_same (lsub_same lsub_nil))))) ?_
          exact ih14 _ _  (by omega) (by first | assumption | omega | decide) (by first | assumption | omega | decide) (by exact nx) (by first | assumption | omega | decide) (by first | assumption | omega | decide)
        · refine Z_aload_n (n := 33) dX2_nodeCountAt_32 rfl rfl ?_
          refine Z_getA (n := 36) dX2_nodeCountAt_33 rfl ffX2_11 rfl rfl ?_
          refine Z_iload (n := 38) dX2_nodeCountAt_36 rfl rfl ?_
          refine Z_iald (n := 39) dX2_nodeCountAt_38 rfl rfl rfl (by first | decide | assumption) (by omega) (by omega) (fun r38 s38 => ?_)
          refine Z_iload_n (n := 40) dX2_nodeCountAt_39 rfl rfl ?_
          refine Z_icmp_ne (n := 43) (t := 46) dX2_nodeCountAt_40 rfl (by decide) (fun c40 => ?_) (fun c40 => ?_)
          · have nx : c = hr (ncF (M6 9) (M6 6) p) (i + 1).toNat := by
              have z := hr_up (ncF (M6 9) (M6 6) p) (i := i) (by omega)
              have nz : ncF (M6 9) (M6 6) p i = 0 := ind_f (fun q => c40 q.2)
              rw [if_pos nz] at z
              omega
            refine Z_iinc (L' := [_, _, _, _, _]) (n := 49) dX2_nodeCountAt_46 rfl rfl (by decide) rfl rfl (by omega) rfl ?_
            refine Z_goto (t := 14) dX2_nodeCountAt_49 (by decide) ?_
            refine Z_loc (L' := [some _, some _, some _, some _, some _]) (lsub_same (lsub_same (lsub_same (lsub_same (lsub_same lsub_nil))))) ?_
            exact ih14 _ _  (by omega) (by first | assumption | omega | decide) (by first | assumption | omega | decide) (by exact nx) (by first | assumption | omega | decide) (by first | assumption | omega | decide)
          · have nx : c + 1 = hr (ncF (M6 9) (M6 6) p) (i + 1).toNat := by
              have z := hr_up (ncF (M6 9) (M6 6) p) (i := i) (by omega)
              have nz : ¬ ncF (M6 9) (M6 6) p i = 0 := ind_nz.mpr ⟨⟨by omega, c29⟩, c40⟩
              rw [if_neg nz] at z
              omega
            refine Z_iinc (L' := [_, _, _, _, _]) (n := 46) dX2_nodeCountAt_43 rfl rfl (by decide) rfl rfl (by omega) rfl ?_
            refine Z_iinc (L' := [_, _, _, _, _]) (n := 49) dX2_nodeCountAt_46 rfl rfl (by decide) rfl rfl (by omega) rfl ?_
            refine Z_goto (t := 14) dX2_nodeCountAt_49 (by decide) ?_
            refine Z_loc (L' := [some _, some _, some _, some _, some _]) (lsub_same (lsub_same (lsub_same (lsub_same (lsub_same lsub_nil))))) ?_
            exact ih14 _ _  (by omega) (by first | assumption | omega | decide) (by first | assumption | omega | decide) (by exact nx) (by first | assumption | omega | decide) (by first | assumption | omega | decide)
  refine Z_loc (L' := [some _, some _, some _, some _, some _]) (lsub_same (lsub_same (lsub_same (lsub_same (lsub_same lsub_nil))))) ?_
  exact lp14 _ _ _  (Nat.lt_succ_self _) (by first | assumption | omega | decide) (by first | assumption | omega | decide) (by exact (hr_zero (fun k a b => ind_f (fun q => by omega))).symm) (by first | assumption | omega | decide) (by first | assumption | omega | decide)
set_option maxRecDepth 20000 in
theorem zX3_level_f {G : tl_G} {M : zM} {J : zJ} {f v : Int} (hb : CB M) : ZN G yX3_level mX3_level 11 kMarks [vR 0, vI f, vI v] F1 M J (qI (fun x M' J' => J' = J ∧ (((f < 0 ∨ 12 ≤ f ∨ M 12 f = -1) ∧ x = -1) ∨ (¬ (f < 0 ∨ 12 ≤ f ∨ M 12 f = -1) ∧ (v < 0 ∨ 8 ≤ v) ∧ x = -2) ∨ (¬ (f < 0 ∨ 12 ≤ f ∨ M 12 f = -1) ∧ 0 ≤ v ∧ v < 8 ∧ cnt (fun y => laid (den M (M 12 f)) y ∧ y.1 = M 4 v) x)))) := by
  refine ZN_of (L := [_, _, _]) (by decide) rfl rfl (Nat.le_of_ble_eq_true rfl) rfl (fun hav => ?_)
  obtain ⟨⟨Sb, hSb, hRb⟩, -⟩ := hb
  refine Z_aload_n (n := 1) dX3_level_0 rfl rfl ?_
  refine Z_iload_n (n := 2) dX3_level_1 rfl rfl ?_
  refine Z_callVi (n := 5) [_] _ dX3_level_2 rfl cwX3_139 rfl rfl (by first | rfl | exact nS0 (nA_at (by omega) (by omega))) (Nat.le_of_ble_eq_true rfl) (by refine ⟨?_, ?_, ?_, ?_⟩ <;> exact Nat.le_of_ble_eq_true rfl) (fun _ _ => trivial) (zX3_hasFunction  ) ?_
  intro x2 M2 J2 z2 f2 q2
  obtain ⟨e2_1, e2_2, h2⟩ := q2
  replace e2_1 := e2_1.symm; subst e2_1
  replace e2_2 := e2_2.symm; subst e2_2
  refine Z_if_ne (n := 8) (t := 10) dX3_level_5 rfl (by decide) (fun c5 => ?_) (fun c5 => ?_)
  · refine Z_iload_n (n := 11) dX3_level_10 rfl rfl ?_
    refine Z_callSi (n := 14) [_] _ dX3_level_11 rfl cwX3_70 rfl rfl (Nat.le_of_ble_eq_true rfl) (by refine ⟨?_, ?_, ?_, ?_⟩ <;> exact Nat.le_of_ble_eq_true rfl) (fun _ _ => trivial) (zX3_isVariable  ) ?_
    intro x11 M11 J11 z11 f11 q11
    obtain ⟨e11_1, e11_2, h11⟩ := q11
    replace e11_1 := e11_1.symm; subst e11_1
    replace e11_2 := e11_2.symm; subst e11_2
    refine Z_if_ne (n := 17) (t := 20) dX3_level_14 rfl (by decide) (fun c14 => ?_) (fun c14 => ?_)
    · have okf : okN Sb (M 12 f) := (hRb _ (Or.inl ⟨f, ⟨by omega, by omega⟩, rfl⟩)).resolve_left (by omega)
      refine Z_aload_n (n := 21) dX3_level_20 rfl rfl ?_
      refine Z_getO (n := 24) dX3_level_21 rfl ffX3_25 (by first | rfl | exact nS0 (nA_at (by omega) (by omega))) (by first | rfl | exact nS0 (nA_at (by omega) (by omega))) ?_
      refine Z_aload_n (n := 25) dX3_level_24 rfl rfl ?_
      refine Z_getA (n := 28) dX3_level_25 rfl ffX3_29 (by first | rfl | exact nS0 (nA_at (by omega) (by omega))) (by first | rfl | exact nS0 (nA_at (by omega) (by omega))) ?_
      refine Z_iload_n (n := 29) dX3_level_28 rfl rfl ?_
      refine Z_iald (n := 30) dX3_level_29 rfl (by first | rfl | exact nS0 (nA_at (by omega) (by omega))) rfl (by first | decide | assumption) (by omega) (by omega) (fun r29 s29 => ?_)
      refine Z_aload_n (n := 31) dX3_level_30 rfl rfl ?_
      refine Z_getO (n := 34) dX3_level_31 rfl ffX3_18 (by first | rfl | exact nS0 (nA_at (by omega) (by omega))) (by first | rfl | exact nS0 (nA_at (by omega) (by omega))) ?_
      refine Z_iload_n (n := 35) dX3_level_34 rfl rfl ?_
      refine Z_callVi (n := 38) [_] _ dX3_level_35 rfl cwX3_174 rfl rfl (by first | rfl | exact nS0 (nA_at (by omega) (by omega))) (Nat.le_of_ble_eq_true rfl) (by refine ⟨?_, ?_, ?_, ?_⟩ <;> exact Nat.le_of_ble_eq_true rfl) (fun _ _ => trivial) (zX1_placeOf  (by first | assumption | omega | decide) (by first | assumption | omega | decide)) ?_
      intro x35 M35 J35 z35 f35 q35
      obtain ⟨e35_1, e35_2, h35⟩ := q35
      replace e35_1 := e35_1.symm; subst e35_1
      replace e35_2 := e35_2.symm; subst e35_2
      refine Z_callVi (n := 41) [_, _] _ dX3_level_38 rfl cwX3_168 rfl rfl (by first | rfl | exact nS0 (nA_at (by omega) (by omega))) (Nat.le_of_ble_eq_true rfl) (by refine ⟨?_, ?_, ?_, ?_⟩ <;> exact Nat.le_of_ble_eq_true rfl) (fun _ h => h) (zX2_nodeCountAt_f  (by exact hSb.1) (by exact Or.inr okf)) ?_
      intro x38 M38 J38 z38 f38 q38
      obtain ⟨e38_1, cn38⟩ := q38
      replace e38_1 := e38_1.symm; subst e38_1
      refine Z_iret dX3_level_41 rfl ?_
      rw [h35] at cn38
      exact ⟨rfl, Or.inr (Or.inr ⟨by omega, by omega, by omega, cn38⟩)⟩
    · refine Z_bipush (n := 19) dX3_level_17 rfl (by decide) (by decide) ?_
      refine Z_iret dX3_level_19 rfl ?_
      exact ⟨rfl, Or.inr (Or.inl ⟨by omega, by omega, rfl⟩)⟩
  · refine Z_iconst (n := 9) dX3_level_8 rfl (by decide) ?_
    refine Z_iret dX3_level_9 rfl ?_
    exact ⟨rfl, Or.inl ⟨by omega, rfl⟩⟩
set_option maxRecDepth 20000 in
theorem zX4_level_g {G : tl_G} {M : zM} {J : zJ} {f v : Int}  : ZN G yX4_level mX4_level 3 kAll [vR 31, vI f, vI v] F1 M J (qI (fun x M' J' => M' = M ∧ J' = J ∧ (((f < 0 ∨ 12 ≤ f ∨ M 43 f = 0) ∧ x = -1) ∨ (¬ (f < 0 ∨ 12 ≤ f ∨ M 43 f = 0) ∧ (v < 0 ∨ 8 ≤ v) ∧ x = -2) ∨ (¬ (f < 0 ∨ 12 ≤ f ∨ M 43 f = 0) ∧ 0 ≤ v ∧ v < 8 ∧ x = hr (lvF M f (M 39 v)) (M 45 f).toNat)))) := by
  refine ZN_of (L := [_, _, _, _, _]) (by decide) rfl rfl (Nat.le_of_ble_eq_true rfl) rfl (fun hav => ?_)
  refine Z_aload_n (n := 1) dX4_level_0 rfl rfl ?_
  refine Z_iload_n (n := 2) dX4_level_1 rfl rfl ?_
  refine Z_callVi (n := 5) [_] _ dX4_level_2 rfl cwX4_223 rfl rfl rfl (Nat.le_of_ble_eq_true rfl) (by refine ⟨?_, ?_, ?_, ?_⟩ <;> exact Nat.le_of_ble_eq_true rfl) (fun _ h => h) (zX4_isFunction  ) ?_
  intro x2 M2 J2 z2 f2 q2
  obtain ⟨e2_1, e2_2, h2⟩ := q2
  replace e2_1 := e2_1.symm; subst e2_1
  replace e2_2 := e2_2.symm; subst e2_2
  refine Z_if_ne (n := 8) (t := 10) dX4_level_5 rfl (by decide) (fun c5 => ?_) (fun c5 => ?_)
  · refine Z_iload_n (n := 11) dX4_level_10 rfl rfl ?_
    refine Z_iconst (n := 12) dX4_level_11 rfl (by decide) ?_
    refine Z_bipush (n := 14) dX4_level_12 rfl (by decide) (by decide) ?_
    refine Z_callSi (n := 17) [_, _, _] _ dX4_level_14 rfl cwX4_112 rfl rfl (Nat.le_of_ble_eq_true rfl) (by refine ⟨?_, ?_, ?_, ?_⟩ <;> exact Nat.le_of_ble_eq_true rfl) (fun _ h => h) (zX4_in  ) ?_
    intro x14 M14 J14 z14 f14 q14
    obtain ⟨e14_1, e14_2, h14⟩ := q14
    replace e14_1 := e14_1.symm; subst e14_1
    replace e14_2 := e14_2.symm; subst e14_2
    refine Z_if_ne (n := 20) (t := 23) dX4_level_17 rfl (by decide) (fun c17 => ?_) (fun c17 => ?_)
    · refine Z_rg 45 f rfl (fun g45 g45b => ?_)
      refine Z_iconst (n := 24) dX4_level_23 rfl (by decide) ?_
      refine Z_istore_n (L' := [_, _, _, _, _]) (n := 25) dX4_level_24 rfl (by decide) rfl rfl ?_
      refine Z_iconst (n := 26) dX4_level_25 rfl (by decide) ?_
      refine Z_istore (L' := [_, _, _, _, _]) (n := 28) dX4_level_26 rfl (by decide) rfl rfl ?_
      have lp28 : ∀ (N28 : Nat) (n k : Int) , ((255 - k).toNat) < N28 → (0 ≤ k) → (k ≤ 255) → (0 ≤ n) → (n ≤ k) → (n = hr (lvF M f (M 39 v)) k.toNat) → (k ≤ M 45 f) → TZ G mX4_level (tl_rm 3 0 0) 0 0 kAll M J 28 [some (vR 31), some (vI f), some (vI v), some (vI n), some (vI k)] [] F1 M J (ZM G (zPost G kAll F1 M J (qI (fun x M' J' => M' = M ∧ J' = J ∧ (((f < 0 ∨ 12 ≤ f ∨ M 43 f = 0) ∧ x = -1) ∨ (¬ (f < 0 ∨ 12 ≤ f ∨ M 43 f = 0) ∧ (v < 0 ∨ 8 ≤ v) ∧ x = -2) ∨ (¬ (f < 0 ∨ 12 ≤ f ∨ M 43 f = 0) ∧ 0 ≤ v ∧ v < 8 ∧ x = hr (lvF M f (M 39 v)) (M 45 f).toNat))))) 0 0) := by
        intro N28
        induction N28 with
        | zero => intro n k  hN; omega
        | succ N28 ih28 =>
          intro n k  hN28 i28_0 i28_1 i28_2 i28_3 i28_4 i28_5
          refine Z_iload (n := 30) dX4_level_28 rfl rfl ?_
          refine Z_aload_n (n := 31) dX4_level_30 rfl rfl ?_
          refine Z_getA (n := 34) dX4_level_31 rfl ffX4_51 rfl rfl ?_
          refine Z_iload_n (n := 35) dX4_level_34 rfl rfl ?_
          refine Z_iald (n := 36) dX4_level_35 rfl rfl rfl (by first | decide | assumption) (by omega) (by omega) (fun r35 s35 => ?_)
          refine Z_icmp_ge (n := 39) (t := 80) dX4_level_36 rfl (by decide) (fun c36 => ?_) (fun c36 => ?_)
          · refine Z_iload_n (n := 81) dX4_level_80 rfl rfl ?_
            refine Z_iret dX4_level_81 rfl ?_
            refine ⟨rfl, rfl, Or.inr (Or.inr ⟨by omega, by omega, by omega, ?_⟩)⟩
            rw [show M 45 f = k by omega]
            exact i28_4
          · refine Z_iload_n (n := 40) dX4_level_39 rfl rfl ?_
            refine Z_aload_n (n := 41) dX4_level_40 rfl rfl ?_
            refine Z_getA (n := 44) dX4_level_41 rfl ffX4_57 rfl rfl ?_
            refine Z_aload_n (n := 45) dX4_level_44 rfl rfl ?_
            refine Z_getA (n := 48) dX4_level_45 rfl ffX4_54 rfl rfl ?_
            refine Z_sipush (n := 51) dX4_level_48 rfl (by decide) (by decide) ?_
            refine Z_iload_n (n := 52) dX4_level_51 rfl rfl ?_
            refine Z_imul (n := 53) dX4_level_52 rfl (by omega) ?_
            refine Z_iload (n := 55) dX4_level_53 rfl rfl ?_
            refine Z_iadd (n := 56) dX4_level_55 rfl (by omega) ?_
            refine Z_iald (n := 57) dX4_level_56 rfl rfl rfl (by first | decide | assumption) (by omega) (by omega) (fun r56 s56 => ?_)
            refine Z_iald (n := 58) dX4_level_57 rfl rfl rfl (by first | decide | assumption) (by omega) (by omega) (fun r57 s57 => ?_)
            refine Z_aload_n (n := 59) dX4_level_58 rfl rfl ?_
            refine Z_getA (n := 62) dX4_level_59 rfl ffX4_32 rfl rfl ?_
            refine Z_iload_n (n := 63) dX4_level_62 rfl rfl ?_
            refine Z_iald (n := 64) dX4_level_63 rfl rfl rfl (by first | decide | assumption) (by omega) (by omega) (fun r63 s63 => ?_)
            refine Z_icmp_ne (n := 67) (t := 71) dX4_level_64 rfl (by decide) (fun c64 => ?_) (fun c64 => ?_)
            · have nx4 : n + 0 = hr (lvF M f (M 39 v)) (k + 1).toNat := by
                have z := hr_up (lvF M f (M 39 v)) (i := k) (by omega)
                have nz : lvF M f (M 39 v) k = 0 := ind_f c64
                rw [if_pos nz] at z
                omega
              refine Z_iconst (n := 72) dX4_level_71 rfl (by decide) ?_
              refine Z_iadd (n := 73) dX4_level_72 rfl (by omega) ?_
              refine Z_istore_n (L' := [_, _, _, _, _]) (n := 74) dX4_level_73 rfl (by decide) rfl rfl ?_
              refine Z_iinc (L' := [_, _, _, _, _]) (n := 77) dX4_level_74 rfl rfl (by decide) rfl rfl (by omega) rfl ?_
              refine Z_goto (t := 28) dX4_level_77 (by decide) ?_
              refine Z_loc (L' := [some _, some _, some _, some _, some _]) (lsub_same (lsub_same (lsub_same (lsub_same (lsub_same lsub_nil))))) ?_
              exact ih28 _ _  (by omega) (by first | assumption | omega | decide) (by first | assumption | omega | decide) (by first | assumption | omega | decide) (by first | assumption | omega | decide) (by exact nx4) (by omega)
            · have nx4 : n + 1 = hr (lvF M f (M 39 v)) (k + 1).toNat := by
                have z := hr_up (lvF M f (M 39 v)) (i := k) (by omega)
                have nz : ¬ lvF M f (M 39 v) k = 0 := ind_nz.mpr c64
                rw [if_neg nz] at z
                omega
              refine Z_iconst (n := 68) dX4_level_67 rfl (by decide) ?_
              refine Z_goto (t := 72) dX4_level_68 (by decide) ?_
              refine Z_iadd (n := 73) dX4_level_72 rfl (by omega) ?_
              refine Z_istore_n (L' := [_, _, _, _, _]) (n := 74) dX4_level_73 rfl (by decide) rfl rfl ?_
              refine Z_iinc (L' := [_, _, _, _, _]) (n := 77) dX4_level_74 rfl rfl (by decide) rfl rfl (by omega) rfl ?_
              refine Z_goto (t := 28) dX4_level_77 (by decide) ?_
              refine Z_loc (L' := [some _, some _, some _, some _, some _]) (lsub_same (lsub_same (lsub_same (lsub_same (lsub_same lsub_nil))))) ?_
              exact ih28 _ _  (by omega) (by first | assumption | omega | decide) (by first | assumption | omega | decide) (by first | assumption | omega | decide) (by first | assumption | omega | decide) (by exact nx4) (by omega)
      refine Z_loc (L' := [some _, some _, some _, some _, some _]) (lsub_same (lsub_same (lsub_same (lsub_same (lsub_same lsub_nil))))) ?_
      exact lp28 _ _ _  (Nat.lt_succ_self _) (by first | assumption | omega | decide) (by first | assumption | omega | decide) (by first | assumption | omega | decide) (by first | assumption | omega | decide) (by rfl) (by omega)
    · refine Z_bipush (n := 22) dX4_level_20 rfl (by decide) (by decide) ?_
      refine Z_iret dX4_level_22 rfl ?_
      exact ⟨rfl, rfl, Or.inr (Or.inl ⟨by omega, by omega, rfl⟩)⟩
  · refine Z_iconst (n := 9) dX4_level_8 rfl (by decide) ?_
    refine Z_iret dX4_level_9 rfl ?_
    exact ⟨rfl, rfl, Or.inl ⟨by omega, rfl⟩⟩
/-- the variables of the places that are hung on -/
noncomputable def spF (F : FN) (o : Int → Int) : Nat → Int
  | 0 => 0
  | n + 1 => zor (spF F o n) (if ind (hgF F (n : Int)) = 0 then 0 else zshl 1 (o (n : Int)))
theorem spF_up (F : FN) (o : Int → Int) {i : Int} (h : 0 ≤ i) : spF F o (i + 1).toNat = zor (spF F o i.toNat) (if ind (hgF F i) = 0 then 0 else zshl 1 (o i)) := by
  rw [show (i + 1).toNat = i.toNat + 1 by omega]
  show zor (spF F o i.toNat) (if ind (hgF F (i.toNat : Int)) = 0 then 0 else zshl 1 (o (i.toNat : Int))) = _
  rw [Int.toNat_of_nonneg h]
theorem spF_cg {F : FN} {o o' : Int → Int} : ∀ {n : Nat}, (∀ j : Int, 0 ≤ j → j < n → o' j = o j) → spF F o' n = spF F o n
  | 0, _ => rfl
  | n + 1, h => by
    show zor (spF F o' n) (if ind (hgF F (n : Int)) = 0 then 0 else zshl 1 (o' (n : Int))) = zor (spF F o n) (if ind (hgF F (n : Int)) = 0 then 0 else zshl 1 (o (n : Int)))
    rw [spF_cg (n := n) (fun j a b => h j a (by omega)), h n (by omega) (by omega)]
theorem cnt_hg {F : FN} {p x : Int} (p0 : 0 ≤ p) (p1 : p < 8) (h : cnt (fun y => laid F y ∧ y.1 = p) x) : (0 < x ↔ hgF F p) ∧ 0 ≤ x := by
  obtain ⟨L, -, h2, h3⟩ := h
  refine ⟨⟨fun q => ?_, fun q => ?_⟩, by omega⟩
  · cases L with
    | nil => rw [← h3] at q; exact absurd q (by decide)
    | cons z t =>
      obtain ⟨a, b⟩ := (h2 z).mp List.mem_cons_self
      refine (hg_laid p0 p1).mpr ⟨z.2, ?_⟩
      rw [← b]
      exact a
  · obtain ⟨s, hs⟩ := (hg_laid p0 p1).mp q
    have m := (h2 (p, s)).mpr ⟨hs, rfl⟩
    cases L with
    | nil => cases m
    | cons z t => rw [← h3, List.length_cons]; omega
set_option maxRecDepth 20000 in
theorem zX3_support_f {G : tl_G} {M : zM} {J : zJ} {f : Int} (hb : CB M) : ZN G yX3_support mX3_support 11 kMarks [vR 0, vI f] F1 M J (qI (fun x M' J' => J' = J ∧ (((f < 0 ∨ 12 ≤ f ∨ M 12 f = -1) ∧ x = -1) ∨ (¬ (f < 0 ∨ 12 ≤ f ∨ M 12 f = -1) ∧ x = (spF (den M (M 12 f)) (M 3) 8))))) := by
  refine ZN_of (L := [_, _, _, _]) (by decide) rfl rfl (Nat.le_of_ble_eq_true rfl) rfl (fun hav => ?_)
  obtain ⟨⟨Sb, hSb, hRb⟩, -⟩ := hb
  refine Z_aload_n (n := 1) dX3_support_0 rfl rfl ?_
  refine Z_iload_n (n := 2) dX3_support_1 rfl rfl ?_
  refine Z_callVi (n := 5) [_] _ dX3_support_2 rfl cwX3_139 rfl rfl (by first | rfl | exact nS0 (nA_at (by omega) (by omega))) (Nat.le_of_ble_eq_true rfl) (by refine ⟨?_, ?_, ?_, ?_⟩ <;> exact Nat.le_of_ble_eq_true rfl) (fun _ _ => trivial) (zX3_hasFunction  ) ?_
  intro x2 M2 J2 z2 f2 q2
  obtain ⟨e2_1, e2_2, h2⟩ := q2
  replace e2_1 := e2_1.symm; subst e2_1
  replace e2_2 := e2_2.symm; subst e2_2
  refine Z_if_ne (n := 8) (t := 10) dX3_support_5 rfl (by decide) (fun c5 => ?_) (fun c5 => ?_)
  · have okf : okN Sb (M 12 f) := (hRb _ (Or.inl ⟨f, ⟨by omega, by omega⟩, rfl⟩)).resolve_left (by omega)
    refine Z_iconst (n := 11) dX3_support_10 rfl (by decide) ?_
    refine Z_istore_n (L' := [_, _, _, _]) (n := 12) dX3_support_11 rfl (by decide) rfl rfl ?_
    refine Z_iconst (n := 13) dX3_support_12 rfl (by decide) ?_
    refine Z_istore_n (L' := [_, _, _, _]) (n := 14) dX3_support_13 rfl (by decide) rfl rfl ?_
    have lp14 : ∀ (N14 : Nat) (n p : Int) (M14 : zM) (J14 : zJ), ((8 - p).toNat) < N14 → (J14 = J) → (0 ≤ p) → (p ≤ 8) → (n = (spF (den M (M 12 f)) (M 3) p.toNat)) → (0 ≤ n ∧ n < 256) → TZ G mX3_support (tl_rm 11 0 0) 0 0 kMarks M J 14 [some (vR 0), some (vI f), some (vI n), some (vI p)] [] F1 M14 J14 (ZM G (zPost G kMarks F1 M J (qI (fun x M' J' => J' = J ∧ (((f < 0 ∨ 12 ≤ f ∨ M 12 f = -1) ∧ x = -1) ∨ (¬ (f < 0 ∨ 12 ≤ f ∨ M 12 f = -1) ∧ x = (spF (den M (M 12 f)) (M 3) 8)))))) 0 0) := by
      intro N14
      induction N14 with
      | zero => intro n p M14 J14 hN; omega
      | succ N14 ih14 =>
        intro n p M14 J14 hN14 i14_0 i14_1 i14_2 i14_3 i14_4
        refine Z_iload_n (n := 15) dX3_support_14 rfl rfl ?_
        refine Z_bipush (n := 17) dX3_support_15 rfl (by decide) (by decide) ?_
        refine Z_icmp_ge (n := 20) (t := 56) dX3_support_17 rfl (by decide) (fun c17 => ?_) (fun c17 => ?_)
        · refine Z_iload_n (n := 57) dX3_support_56 rfl rfl ?_
          refine Z_iret dX3_support_57 rfl ?_
          refine ⟨i14_0, Or.inr ⟨by omega, ?_⟩⟩
          rw [i14_3, show p = 8 by omega]
          rfl
        · refine Z_fr (fun fr14 => ?_)
          have e12 : M14 12 = M 12 := (fr14 12 (by decide)).1
          have hp14 : pst M14 Sb := pst_cg (fr14 6 (by decide)).1 (fr14 7 (by decide)).1 (fr14 8 (by decide)).1 hSb.1
          have hd14 : den M14 = den M := den_cg (fr14 6 (by decide)).1 (fr14 7 (by decide)).1 (fr14 8 (by decide)).1
          refine Z_rg 3 p rfl (fun g3 g3b => ?_)
          rw [(fr14 3 (by decide)).1] at g3 g3b
          refine Z_aload_n (n := 21) dX3_support_20 rfl rfl ?_
          refine Z_getO (n := 24) dX3_support_21 rfl ffX3_25 (by first | rfl | exact nS0 (nA_at (by omega) (by omega))) (by first | rfl | exact nS0 (nA_at (by omega) (by omega))) ?_
          refine Z_aload_n (n := 25) dX3_support_24 rfl rfl ?_
          refine Z_getA (n := 28) dX3_support_25 rfl ffX3_29 (by first | rfl | exact nS0 (nA_at (by omega) (by omega))) (by first | rfl | exact nS0 (nA_at (by omega) (by omega))) ?_
          refine Z_iload_n (n := 29) dX3_support_28 rfl rfl ?_
          refine Z_iald (n := 30) dX3_support_29 rfl (by first | rfl | exact nS0 (nA_at (by omega) (by omega))) rfl (by first | decide | assumption) (by omega) (by omega) (fun r29 s29 => ?_)
          try simp only [e12] at r29 s29 ⊢
          refine Z_iload_n (n := 31) dX3_support_30 rfl rfl ?_
          refine Z_callVi (n := 34) [_, _] _ dX3_support_31 rfl cwX3_168 rfl rfl (by first | rfl | exact nS0 (nA_at (by omega) (by omega))) (Nat.le_of_ble_eq_true rfl) (by refine ⟨?_, ?_, ?_, ?_⟩ <;> exact Nat.le_of_ble_eq_true rfl) (fun _ h => h) (zX2_nodeCountAt_f  (by exact hp14) (by exact Or.inr okf)) ?_
          intro x31 M31 J31 z31 f31 q31
          obtain ⟨e31_1, cn31⟩ := q31
          replace e31_1 := e31_1.symm; subst e31_1
          have hx31 := cnt_hg (F := den M (M 12 f)) (p := p) (by omega) (by omega) (by rw [hd14] at cn31; exact cn31)
          refine Z_if_le (n := 37) (t := 50) dX3_support_34 rfl (by decide) (fun c34 => ?_) (fun c34 => ?_)
          · have nx3 : n = (spF (den M (M 12 f)) (M 3) (p + 1).toNat) := by
              have nz : ind (hgF (den M (M 12 f)) p) = 0 := ind_f (fun t => absurd (hx31.1.mpr t) (by omega))
              rw [spF_up _ _ (by omega), ← i14_3, if_pos nz]
              exact (zor_0 (by omega) (by omega)).symm
            have nx4 := i14_4
            refine Z_iinc (L' := [_, _, _, _]) (n := 53) dX3_support_50 rfl rfl (by decide) rfl rfl (by omega) rfl ?_
            refine Z_goto (t := 14) dX3_support_53 (by decide) ?_
            refine Z_loc (L' := [some _, some _, some _, some _]) (lsub_same (lsub_same (lsub_same (lsub_same lsub_nil)))) ?_
            exact ih14 _ _ _ _ (by omega) (by assumption) (by first | assumption | omega | decide) (by first | assumption | omega | decide) (by exact nx3) (by exact nx4)
          · refine Z_iload_n (n := 38) dX3_support_37 rfl rfl ?_
            refine Z_iconst (n := 39) dX3_support_38 rfl (by decide) ?_
            refine Z_aload_n (n := 40) dX3_support_39 rfl rfl ?_
            refine Z_getO (n := 43) dX3_support_40 rfl ffX3_18 (by first | rfl | exact nS0 (nA_at (by omega) (by omega))) (by first | rfl | exact nS0 (nA_at (by omega) (by omega))) ?_
            refine Z_iload_n (n := 44) dX3_support_43 rfl rfl ?_
            refine Z_callVi (n := 47) [_] _ dX3_support_44 rfl cwX3_114 rfl rfl (by first | rfl | exact nS0 (nA_at (by omega) (by omega))) (Nat.le_of_ble_eq_true rfl) (by refine ⟨?_, ?_, ?_, ?_⟩ <;> exact Nat.le_of_ble_eq_true rfl) (fun _ _ => trivial) (zX1_variableAt  (by first | assumption | omega | decide) (by first | assumption | omega | decide)) ?_
            intro x44 M44 J44 z44 f44 q44
            obtain ⟨e44_1, e44_2, h44⟩ := q44
            replace e44_1 := e44_1.symm; subst e44_1
            replace e44_2 := e44_2.symm; subst e44_2
            have e3 : M31 3 = M 3 := ((f31 3 (by decide)).1).trans (fr14 3 (by decide)).1
            have e3p : x44 = M 3 p := by rw [h44, e3]
            refine Z_ishl (n := 48) dX3_support_47 rfl ?_
            refine Z_ior (n := 49) dX3_support_48 rfl ?_
            have nx3 : zor n (zshl 1 x44) = (spF (den M (M 12 f)) (M 3) (p + 1).toNat) := by
              have nz : ¬ ind (hgF (den M (M 12 f)) p) = 0 := ind_nz.mpr (hx31.1.mp (by omega))
              rw [spF_up _ _ (by omega), ← i14_3, if_neg nz, e3p]
            have nx4 : 0 ≤ zor n (zshl 1 x44) ∧ zor n (zshl 1 x44) < 256 := by
              have z := zshl1 (d := x44) (by omega) (by omega)
              rw [zor_nat (by omega) (by omega) (by omega) (by omega)]
              have w : n.toNat ||| (zshl 1 x44).toNat < 2 ^ 8 := Nat.or_lt_two_pow (by omega) (by omega)
              omega
            refine Z_istore_n (L' := [_, _, _, _]) (n := 50) dX3_support_49 rfl (by decide) rfl rfl ?_
            refine Z_iinc (L' := [_, _, _, _]) (n := 53) dX3_support_50 rfl rfl (by decide) rfl rfl (by omega) rfl ?_
            refine Z_goto (t := 14) dX3_support_53 (by decide) ?_
            refine Z_loc (L' := [some _, some _, some _, some _]) (lsub_same (lsub_same (lsub_same (lsub_same lsub_nil)))) ?_
            exact ih14 _ _ _ _ (by omega) (by assumption) (by first | assumption | omega | decide) (by first | assumption | omega | decide) (by exact nx3) (by exact nx4)
    refine Z_loc (L' := [some _, some _, some _, some _]) (lsub_same (lsub_same (lsub_same (lsub_same lsub_nil)))) ?_
    exact lp14 _ _ _ _ _ (Nat.lt_succ_self _) (by rfl) (by first | assumption | omega | decide) (by first | assumption | omega | decide) (by rfl) (by decide)
  · refine Z_iconst (n := 9) dX3_support_8 rfl (by decide) ?_
    refine Z_iret dX3_support_9 rfl ?_
    exact ⟨rfl, Or.inl ⟨by omega, rfl⟩⟩
set_option maxRecDepth 20000 in
theorem zX4_support_g {G : tl_G} {M : zM} {J : zJ} {f : Int}  : ZN G yX4_support mX4_support 3 kAll [vR 31, vI f] F1 M J (qI (fun x M' J' => M' = M ∧ J' = J ∧ (((f < 0 ∨ 12 ≤ f ∨ M 43 f = 0) ∧ x = -1) ∨ (¬ (f < 0 ∨ 12 ≤ f ∨ M 43 f = 0) ∧ x = (spF (phi J f) (M 38) 8))))) := by
  refine ZN_of (L := [_, _, _, _]) (by decide) rfl rfl (Nat.le_of_ble_eq_true rfl) rfl (fun hav => ?_)
  refine Z_aload_n (n := 1) dX4_support_0 rfl rfl ?_
  refine Z_iload_n (n := 2) dX4_support_1 rfl rfl ?_
  refine Z_callVi (n := 5) [_] _ dX4_support_2 rfl cwX4_223 rfl rfl rfl (Nat.le_of_ble_eq_true rfl) (by refine ⟨?_, ?_, ?_, ?_⟩ <;> exact Nat.le_of_ble_eq_true rfl) (fun _ h => h) (zX4_isFunction  ) ?_
  intro x2 M2 J2 z2 f2 q2
  obtain ⟨e2_1, e2_2, h2⟩ := q2
  replace e2_1 := e2_1.symm; subst e2_1
  replace e2_2 := e2_2.symm; subst e2_2
  refine Z_if_ne (n := 8) (t := 10) dX4_support_5 rfl (by decide) (fun c5 => ?_) (fun c5 => ?_)
  · refine Z_iconst (n := 11) dX4_support_10 rfl (by decide) ?_
    refine Z_istore_n (L' := [_, _, _, _]) (n := 12) dX4_support_11 rfl (by decide) rfl rfl ?_
    refine Z_iconst (n := 13) dX4_support_12 rfl (by decide) ?_
    refine Z_istore_n (L' := [_, _, _, _]) (n := 14) dX4_support_13 rfl (by decide) rfl rfl ?_
    have lp14 : ∀ (N14 : Nat) (n k : Int) , ((8 - k).toNat) < N14 → (0 ≤ k) → (k ≤ 8) → (n = (spF (phi J f) (M 38) k.toNat)) → TZ G mX4_support (tl_rm 3 0 0) 0 0 kAll M J 14 [some (vR 31), some (vI f), some (vI n), some (vI k)] [] F1 M J (ZM G (zPost G kAll F1 M J (qI (fun x M' J' => M' = M ∧ J' = J ∧ (((f < 0 ∨ 12 ≤ f ∨ M 43 f = 0) ∧ x = -1) ∨ (¬ (f < 0 ∨ 12 ≤ f ∨ M 43 f = 0) ∧ x = (spF (phi J f) (M 38) 8)))))) 0 0) := by
      intro N14
      induction N14 with
      | zero => intro n k  hN; omega
      | succ N14 ih14 =>
        intro n k  hN14 i14_0 i14_1 i14_2
        refine Z_iload_n (n := 15) dX4_support_14 rfl rfl ?_
        refine Z_bipush (n := 17) dX4_support_15 rfl (by decide) (by decide) ?_
        refine Z_icmp_ge (n := 20) (t := 50) dX4_support_17 rfl (by decide) (fun c17 => ?_) (fun c17 => ?_)
        · refine Z_iload_n (n := 51) dX4_support_50 rfl rfl ?_
          refine Z_iret dX4_support_51 rfl ?_
          refine ⟨rfl, rfl, Or.inr ⟨by omega, ?_⟩⟩
          rw [i14_2, show k = 8 by omega]
          rfl
        · refine Z_iload_n (n := 21) dX4_support_20 rfl rfl ?_
          refine Z_aload_n (n := 22) dX4_support_21 rfl rfl ?_
          refine Z_iload_n (n := 23) dX4_support_22 rfl rfl ?_
          refine Z_iload_n (n := 24) dX4_support_23 rfl rfl ?_
          refine Z_callVi (n := 27) [_, _] _ dX4_support_24 rfl cwX4_243 rfl rfl rfl (Nat.le_of_ble_eq_true rfl) (by refine ⟨?_, ?_, ?_, ?_⟩ <;> exact Nat.le_of_ble_eq_true rfl) (fun _ h => h) (zX4_hangs_f  (by first | assumption | omega | decide) (by first | assumption | omega | decide) (by first | assumption | omega | decide) (by first | assumption | omega | decide)) ?_
          intro x24 M24 J24 z24 f24 q24
          obtain ⟨e24_1, e24_2, hg24⟩ := q24
          replace e24_1 := e24_1.symm; subst e24_1
          replace e24_2 := e24_2.symm; subst e24_2
          refine Z_if_eq (n := 30) (t := 41) dX4_support_27 rfl (by decide) (fun c27 => ?_) (fun c27 => ?_)
          · have nx : zor n 0 = (spF (phi J f) (M 38) (k + 1).toNat) := by
              have nz : ind (hgF (phi J f) k) = 0 := ind_f (hg24.resolve_left (fun t => by omega)).2
              rw [spF_up _ _ (by omega), ← i14_2, if_pos nz]
            refine Z_iconst (n := 42) dX4_support_41 rfl (by decide) ?_
            refine Z_ior (n := 43) dX4_support_42 rfl ?_
            refine Z_istore_n (L' := [_, _, _, _]) (n := 44) dX4_support_43 rfl (by decide) rfl rfl ?_
            refine Z_iinc (L' := [_, _, _, _]) (n := 47) dX4_support_44 rfl rfl (by decide) rfl rfl (by omega) rfl ?_
            refine Z_goto (t := 14) dX4_support_47 (by decide) ?_
            refine Z_loc (L' := [some _, some _, some _, some _]) (lsub_same (lsub_same (lsub_same (lsub_same lsub_nil)))) ?_
            exact ih14 _ _  (by omega) (by first | assumption | omega | decide) (by first | assumption | omega | decide) (by exact nx)
          · have nx : zor n (zshl 1 (M 38 k)) = (spF (phi J f) (M 38) (k + 1).toNat) := by
              have nz : ¬ ind (hgF (phi J f) k) = 0 := ind_nz.mpr (hg24.resolve_right (fun t => by omega)).2
              rw [spF_up _ _ (by omega), ← i14_2, if_neg nz]
            refine Z_iconst (n := 31) dX4_support_30 rfl (by decide) ?_
            refine Z_aload_n (n := 32) dX4_support_31 rfl rfl ?_
            refine Z_getA (n := 35) dX4_support_32 rfl ffX4_29 rfl rfl ?_
            refine Z_iload_n (n := 36) dX4_support_35 rfl rfl ?_
            refine Z_iald (n := 37) dX4_support_36 rfl rfl rfl (by first | decide | assumption) (by omega) (by omega) (fun r36 s36 => ?_)
            refine Z_ishl (n := 38) dX4_support_37 rfl ?_
            refine Z_goto (t := 42) dX4_support_38 (by decide) ?_
            refine Z_ior (n := 43) dX4_support_42 rfl ?_
            refine Z_istore_n (L' := [_, _, _, _]) (n := 44) dX4_support_43 rfl (by decide) rfl rfl ?_
            refine Z_iinc (L' := [_, _, _, _]) (n := 47) dX4_support_44 rfl rfl (by decide) rfl rfl (by omega) rfl ?_
            refine Z_goto (t := 14) dX4_support_47 (by decide) ?_
            refine Z_loc (L' := [some _, some _, some _, some _]) (lsub_same (lsub_same (lsub_same (lsub_same lsub_nil)))) ?_
            exact ih14 _ _  (by omega) (by first | assumption | omega | decide) (by first | assumption | omega | decide) (by exact nx)
    refine Z_loc (L' := [some _, some _, some _, some _]) (lsub_same (lsub_same (lsub_same (lsub_same lsub_nil)))) ?_
    exact lp14 _ _ _  (Nat.lt_succ_self _) (by first | assumption | omega | decide) (by first | assumption | omega | decide) (by rfl)
  · refine Z_iconst (n := 9) dX4_support_8 rfl (by decide) ?_
    refine Z_iret dX4_support_9 rfl ?_
    exact ⟨rfl, rfl, Or.inl ⟨by omega, rfl⟩⟩
set_option maxRecDepth 20000 in
theorem zX2_commonCount_f {G : tl_G} {M : zM} {J : zJ} {S : Int → Prop} {n o : Int} (hp : pst M S) (hn : okN S n) (ho : okN S o) : ZN G yX2_commonCount mX2_commonCount 10 kMarks [vR 5, vI n, vI o] F1 M J (qI (fun x M' J' => J' = J ∧ cnt (fun y => laid (den M n) y ∧ laid (den M o) y) x)) := by
  refine ZN_of (L := [_, _, _]) (by decide) rfl rfl (Nat.le_of_ble_eq_true rfl) rfl (fun hav => ?_)
  have hin := okN_in hp hn
  have hio := okN_in hp ho
  refine Z_aload_n (n := 1) dX2_commonCount_0 rfl rfl ?_
  refine Z_callVv (n := 4) [] _ dX2_commonCount_1 rfl cwX2_53 rfl rfl rfl (Nat.le_of_ble_eq_true rfl) (by refine ⟨?_, ?_, ?_, ?_⟩ <;> exact Nat.le_of_ble_eq_true rfl) (fun _ h => h) (zX2_unmark  (by decide)) ?_
  intro M1 J1 f1 q1
  obtain ⟨e1_1, e1_2⟩ := q1
  replace e1_1 := e1_1.symm; subst e1_1
  replace e1_2 := e1_2.symm; subst e1_2
  have o1 : ∀ a : Nat, ¬ a = 9 → fillz M 9 252 0 a = M a := fun a ha => fillz_o ha
  have z1 : ∀ m : Int, 0 ≤ m → m < 252 → fillz M 9 252 0 9 m = 0 := fun m a b => fillz_a a (by omega)
  have hp1 : pst (fillz M 9 252 0) S := pst_cg (o1 6 (by decide)) (o1 7 (by decide)) (o1 8 (by decide)) hp
  refine Z_aload_n (n := 5) dX2_commonCount_4 rfl rfl ?_
  refine Z_iconst (n := 6) dX2_commonCount_5 rfl (by decide) ?_
  refine Z_iload_n (n := 7) dX2_commonCount_6 rfl rfl ?_
  refine Z_iconst (n := 8) dX2_commonCount_7 rfl (by decide) ?_
  refine Z_callVv (n := 11) [_, _, _] _ dX2_commonCount_8 rfl cwX2_49 rfl rfl rfl (Nat.le_of_ble_eq_true rfl) (by refine ⟨?_, ?_, ?_, ?_⟩ <;> exact Nat.le_of_ble_eq_true rfl) (fun _ h => h) (zX2_markWith_f 8  (by exact Or.inl rfl) (by exact hp1) (by exact Or.inr hn) (by decide) (by rfl) (by exact fun q => (hp1.2.1 n (okN_2 hp1 hn q)).2.1.1) (by exact fun q => (hp1.2.1 n (okN_2 hp1 hn q)).2.1.1) (by exact (c3_0 hp1 z1).2)) ?_
  intro M8 J8 f8 q8
  obtain ⟨e8_1, mr8⟩ := q8
  replace e8_1 := e8_1.symm; subst e8_1
  have e8 : ∀ a : Nat, ¬ a = 9 → M8 a = M a := fun a ha => ((f8 a ha).1).trans (o1 a ha)
  have hp8 : pst M8 S := pst_cg (e8 6 (by decide)) (e8 7 (by decide)) (e8 8 (by decide)) hp
  have mk1 : mkR M S 1 n 0 (fillz M 9 252 0 9) (M8 9) := mkR_cg (o1 6 (by decide)) (o1 7 (by decide)) (o1 8 (by decide)) mr8
  have cl8 : Clw M8 S 2 0 (M8 9) := fun m hm _ hk => by
    exfalso
    have q := (mk_one hp (Or.inr hn) z1 mk1).1 m ((hp.2.1 m hm).1).1 ((hp.2.1 m hm).1).2
    unfold mkw at hk
    rcases q with q | q
    · rw [q, zo12.2.2.1] at hk; exact hk rfl
    · rw [q.1, zo12.2.2.2.1] at hk; exact hk rfl
  refine Z_aload_n (n := 12) dX2_commonCount_11 rfl rfl ?_
  refine Z_iconst (n := 13) dX2_commonCount_12 rfl (by decide) ?_
  refine Z_iload_n (n := 14) dX2_commonCount_13 rfl rfl ?_
  refine Z_iconst (n := 15) dX2_commonCount_14 rfl (by decide) ?_
  refine Z_callVv (n := 18) [_, _, _] _ dX2_commonCount_15 rfl cwX2_49 rfl rfl rfl (Nat.le_of_ble_eq_true rfl) (by refine ⟨?_, ?_, ?_, ?_⟩ <;> exact Nat.le_of_ble_eq_true rfl) (fun _ h => h) (zX2_markWith_f 8  (by exact Or.inr rfl) (by exact hp8) (by exact Or.inr ho) (by decide) (by rfl) (by exact fun q => (hp8.2.1 o (okN_2 hp8 ho q)).2.1.1) (by exact fun q => (hp8.2.1 o (okN_2 hp8 ho q)).2.1.1) (by exact cl8)) ?_
  intro M15 J15 f15 q15
  obtain ⟨e15_1, mr15⟩ := q15
  replace e15_1 := e15_1.symm; subst e15_1
  have mk2 : mkR M S 2 o 0 (M8 9) (M15 9) := mkR_cg (e8 6 (by decide)) (e8 7 (by decide)) (e8 8 (by decide)) mr15
  refine Z_aload_n (n := 19) dX2_commonCount_18 rfl rfl ?_
  refine Z_iconst (n := 20) dX2_commonCount_19 rfl (by decide) ?_
  refine Z_callVi (n := 23) [_] _ dX2_commonCount_20 rfl cwX2_60 rfl rfl rfl (Nat.le_of_ble_eq_true rfl) (by refine ⟨?_, ?_, ?_, ?_⟩ <;> exact Nat.le_of_ble_eq_true rfl) (fun _ _ => trivial) (zX2_markedWith  ) ?_
  intro x20 M20 J20 z20 f20 q20
  obtain ⟨e20_1, e20_2, h20⟩ := q20
  replace e20_1 := e20_1.symm; subst e20_1
  replace e20_2 := e20_2.symm; subst e20_2
  refine Z_iret dX2_commonCount_23 rfl ?_
  exact ⟨rfl, cnt_cm hp hn ho z1 mk1 mk2 h20⟩
set_option maxRecDepth 20000 in
theorem zX3_common_f {G : tl_G} {M : zM} {J : zJ} {f g : Int} (hb : CB M) : ZN G yX3_common mX3_common 11 kMarks [vR 0, vI f, vI g] F1 M J (qI (fun x M' J' => J' = J ∧ (((f < 0 ∨ 12 ≤ f ∨ M 12 f = -1 ∨ g < 0 ∨ 12 ≤ g ∨ M 12 g = -1) ∧ x = -1) ∨ (¬ (f < 0 ∨ 12 ≤ f ∨ M 12 f = -1 ∨ g < 0 ∨ 12 ≤ g ∨ M 12 g = -1) ∧ cnt (fun y => laid (den M (M 12 f)) y ∧ laid (den M (M 12 g)) y) x)))) := by
  refine ZN_of (L := [_, _, _]) (by decide) rfl rfl (Nat.le_of_ble_eq_true rfl) rfl (fun hav => ?_)
  obtain ⟨⟨Sb, hSb, hRb⟩, -⟩ := hb
  refine Z_aload_n (n := 1) dX3_common_0 rfl rfl ?_
  refine Z_iload_n (n := 2) dX3_common_1 rfl rfl ?_
  refine Z_callVi (n := 5) [_] _ dX3_common_2 rfl cwX3_139 rfl rfl (by first | rfl | exact nS0 (nA_at (by omega) (by omega))) (Nat.le_of_ble_eq_true rfl) (by refine ⟨?_, ?_, ?_, ?_⟩ <;> exact Nat.le_of_ble_eq_true rfl) (fun _ _ => trivial) (zX3_hasFunction  ) ?_
  intro x2 M2 J2 z2 f2 q2
  obtain ⟨e2_1, e2_2, h2⟩ := q2
  replace e2_1 := e2_1.symm; subst e2_1
  replace e2_2 := e2_2.symm; subst e2_2
  refine Z_if_eq (n := 8) (t := 16) dX3_common_5 rfl (by decide) (fun c5 => ?_) (fun c5 => ?_)
  · refine Z_iconst (n := 17) dX3_common_16 rfl (by decide) ?_
    refine Z_iret dX3_common_17 rfl ?_
    exact ⟨rfl, Or.inl ⟨by omega, rfl⟩⟩
  · refine Z_aload_n (n := 9) dX3_common_8 rfl rfl ?_
    refine Z_iload_n (n := 10) dX3_common_9 rfl rfl ?_
    refine Z_callVi (n := 13) [_] _ dX3_common_10 rfl cwX3_139 rfl rfl (by first | rfl | exact nS0 (nA_at (by omega) (by omega))) (Nat.le_of_ble_eq_true rfl) (by refine ⟨?_, ?_, ?_, ?_⟩ <;> exact Nat.le_of_ble_eq_true rfl) (fun _ _ => trivial) (zX3_hasFunction  ) ?_
    intro x10 M10 J10 z10 f10 q10
    obtain ⟨e10_1, e10_2, h10⟩ := q10
    replace e10_1 := e10_1.symm; subst e10_1
    replace e10_2 := e10_2.symm; subst e10_2
    refine Z_if_ne (n := 16) (t := 18) dX3_common_13 rfl (by decide) (fun c13 => ?_) (fun c13 => ?_)
    · have okf : okN Sb (M 12 f) := (hRb _ (Or.inl ⟨f, ⟨by omega, by omega⟩, rfl⟩)).resolve_left (by omega)
      have okg : okN Sb (M 12 g) := (hRb _ (Or.inl ⟨g, ⟨by omega, by omega⟩, rfl⟩)).resolve_left (by omega)
      refine Z_aload_n (n := 19) dX3_common_18 rfl rfl ?_
      refine Z_getO (n := 22) dX3_common_19 rfl ffX3_25 (by first | rfl | exact nS0 (nA_at (by omega) (by omega))) (by first | rfl | exact nS0 (nA_at (by omega) (by omega))) ?_
      refine Z_aload_n (n := 23) dX3_common_22 rfl rfl ?_
      refine Z_getA (n := 26) dX3_common_23 rfl ffX3_29 (by first | rfl | exact nS0 (nA_at (by omega) (by omega))) (by first | rfl | exact nS0 (nA_at (by omega) (by omega))) ?_
      refine Z_iload_n (n := 27) dX3_common_26 rfl rfl ?_
      refine Z_iald (n := 28) dX3_common_27 rfl (by first | rfl | exact nS0 (nA_at (by omega) (by omega))) rfl (by first | decide | assumption) (by omega) (by omega) (fun r27 s27 => ?_)
      refine Z_aload_n (n := 29) dX3_common_28 rfl rfl ?_
      refine Z_getA (n := 32) dX3_common_29 rfl ffX3_29 (by first | rfl | exact nS0 (nA_at (by omega) (by omega))) (by first | rfl | exact nS0 (nA_at (by omega) (by omega))) ?_
      refine Z_iload_n (n := 33) dX3_common_32 rfl rfl ?_
      refine Z_iald (n := 34) dX3_common_33 rfl (by first | rfl | exact nS0 (nA_at (by omega) (by omega))) rfl (by first | decide | assumption) (by omega) (by omega) (fun r33 s33 => ?_)
      refine Z_callVi (n := 37) [_, _] _ dX3_common_34 rfl cwX3_161 rfl rfl (by first | rfl | exact nS0 (nA_at (by omega) (by omega))) (Nat.le_of_ble_eq_true rfl) (by refine ⟨?_, ?_, ?_, ?_⟩ <;> exact Nat.le_of_ble_eq_true rfl) (fun _ h => h) (zX2_commonCount_f  (by exact hSb.1) (by exact okf) (by exact okg)) ?_
      intro x34 M34 J34 z34 f34 q34
      obtain ⟨e34_1, cn34⟩ := q34
      replace e34_1 := e34_1.symm; subst e34_1
      refine Z_iret dX3_common_37 rfl ?_
      exact ⟨rfl, Or.inr ⟨by omega, cn34⟩⟩
    · refine Z_iconst (n := 17) dX3_common_16 rfl (by decide) ?_
      refine Z_iret dX3_common_17 rfl ?_
      exact ⟨rfl, Or.inl ⟨by omega, rfl⟩⟩
set_option maxRecDepth 20000 in
theorem zX4_common_g {G : tl_G} {M : zM} {J : zJ} {f g : Int}  : ZN G yX4_common mX4_common 3 kAll [vR 31, vI f, vI g] F1 M J (qI (fun x M' J' => M' = M ∧ J' = J ∧ (((f < 0 ∨ 12 ≤ f ∨ M 43 f = 0 ∨ g < 0 ∨ 12 ≤ g ∨ M 43 g = 0) ∧ x = -1) ∨ (¬ (f < 0 ∨ 12 ≤ f ∨ M 43 f = 0 ∨ g < 0 ∨ 12 ≤ g ∨ M 43 g = 0) ∧ x = sm_ (fun i => hr (cmE M f g i) (M 45 g).toNat) (M 45 f).toNat)))) := by
  refine ZN_of (L := [_, _, _, _, _, _]) (by decide) rfl rfl (Nat.le_of_ble_eq_true rfl) rfl (fun hav => ?_)
  refine Z_aload_n (n := 1) dX4_common_0 rfl rfl ?_
  refine Z_iload_n (n := 2) dX4_common_1 rfl rfl ?_
  refine Z_callVi (n := 5) [_] _ dX4_common_2 rfl cwX4_223 rfl rfl rfl (Nat.le_of_ble_eq_true rfl) (by refine ⟨?_, ?_, ?_, ?_⟩ <;> exact Nat.le_of_ble_eq_true rfl) (fun _ h => h) (zX4_isFunction  ) ?_
  intro x2 M2 J2 z2 f2 q2
  obtain ⟨e2_1, e2_2, h2⟩ := q2
  replace e2_1 := e2_1.symm; subst e2_1
  replace e2_2 := e2_2.symm; subst e2_2
  refine Z_if_eq (n := 8) (t := 16) dX4_common_5 rfl (by decide) (fun c5 => ?_) (fun c5 => ?_)
  · refine Z_iconst (n := 17) dX4_common_16 rfl (by decide) ?_
    refine Z_iret dX4_common_17 rfl ?_
    exact ⟨rfl, rfl, Or.inl ⟨by omega, rfl⟩⟩
  · refine Z_aload_n (n := 9) dX4_common_8 rfl rfl ?_
    refine Z_iload_n (n := 10) dX4_common_9 rfl rfl ?_
    refine Z_callVi (n := 13) [_] _ dX4_common_10 rfl cwX4_223 rfl rfl rfl (Nat.le_of_ble_eq_true rfl) (by refine ⟨?_, ?_, ?_, ?_⟩ <;> exact Nat.le_of_ble_eq_true rfl) (fun _ h => h) (zX4_isFunction  ) ?_
    intro x10 M10 J10 z10 f10 q10
    obtain ⟨e10_1, e10_2, h10⟩ := q10
    replace e10_1 := e10_1.symm; subst e10_1
    replace e10_2 := e10_2.symm; subst e10_2
    refine Z_if_ne (n := 16) (t := 18) dX4_common_13 rfl (by decide) (fun c13 => ?_) (fun c13 => ?_)
    · refine Z_rg 45 f rfl (fun f45 f45b => ?_)
      refine Z_rg 45 g rfl (fun g45 g45b => ?_)
      refine Z_iconst (n := 19) dX4_common_18 rfl (by decide) ?_
      refine Z_istore_n (L' := [_, _, _, _, _, _]) (n := 20) dX4_common_19 rfl (by decide) rfl rfl ?_
      refine Z_iconst (n := 21) dX4_common_20 rfl (by decide) ?_
      refine Z_istore (L' := [_, _, _, _, _, _]) (n := 23) dX4_common_21 rfl (by decide) rfl rfl ?_
      have lp23 : ∀ (N23 : Nat) (n i : Int) , ((255 - i).toNat) < N23 → (0 ≤ i) → (i ≤ 255) → (0 ≤ n) → (n ≤ 255 * i) → (n = sm_ (fun i => hr (cmE M f g i) (M 45 g).toNat) i.toNat) → (i ≤ M 45 f) → TZ G mX4_common (tl_rm 3 0 0) 0 0 kAll M J 23 [some (vR 31), some (vI f), some (vI g), some (vI n), some (vI i), none] [] F1 M J (ZM G (zPost G kAll F1 M J (qI (fun x M' J' => M' = M ∧ J' = J ∧ (((f < 0 ∨ 12 ≤ f ∨ M 43 f = 0 ∨ g < 0 ∨ 12 ≤ g ∨ M 43 g = 0) ∧ x = -1) ∨ (¬ (f < 0 ∨ 12 ≤ f ∨ M 43 f = 0 ∨ g < 0 ∨ 12 ≤ g ∨ M 43 g = 0) ∧ x = sm_ (fun i => hr (cmE M f g i) (M 45 g).toNat) (M 45 f).toNat))))) 0 0) := by
        intro N23
        induction N23 with
        | zero => intro n i  hN; omega
        | succ N23 ih23 =>
          intro n i  hN23 i23_0 i23_1 i23_2 i23_3 i23_4 i23_5
          refine Z_iload (n := 25) dX4_common_23 rfl rfl ?_
          refine Z_aload_n (n := 26) dX4_common_25 rfl rfl ?_
          refine Z_getA (n := 29) dX4_common_26 rfl ffX4_51 rfl rfl ?_
          refine Z_iload_n (n := 30) dX4_common_29 rfl rfl ?_
          refine Z_iald (n := 31) dX4_common_30 rfl rfl rfl (by first | decide | assumption) (by omega) (by omega) (fun r30 s30 => ?_)
          refine Z_icmp_ge (n := 34) (t := 97) dX4_common_31 rfl (by decide) (fun c31 => ?_) (fun c31 => ?_)
          · refine Z_iload_n (n := 98) dX4_common_97 rfl rfl ?_
            refine Z_iret dX4_common_98 rfl ?_
            refine ⟨rfl, rfl, Or.inr ⟨by omega, ?_⟩⟩
            rw [show M 45 f = i by omega]
            exact i23_4
          · have en4 : n = sm_ (fun i => hr (cmE M f g i) (M 45 g).toNat) i.toNat + hr (cmE M f g i) (0 : Int).toNat := by rw [← i23_4]; show n = n + 0; omega
            refine Z_iconst (n := 35) dX4_common_34 rfl (by decide) ?_
            refine Z_istore (L' := [_, _, _, _, _, _]) (n := 37) dX4_common_35 rfl (by decide) rfl rfl ?_
            have lp37 : ∀ (N37 : Nat) (n j : Int) , ((255 - j).toNat) < N37 → (0 ≤ j) → (j ≤ 255) → (0 ≤ n) → (n ≤ 255 * i + j) → (n = sm_ (fun i => hr (cmE M f g i) (M 45 g).toNat) i.toNat + hr (cmE M f g i) j.toNat) → (j ≤ M 45 g) → TZ G mX4_common (tl_rm 3 0 0) 0 0 kAll M J 37 [some (vR 31), some (vI f), some (vI g), some (vI n), some (vI i), some (vI j)] [] F1 M J (ZM G (zPost G kAll F1 M J (qI (fun x M' J' => M' = M ∧ J' = J ∧ (((f < 0 ∨ 12 ≤ f ∨ M 43 f = 0 ∨ g < 0 ∨ 12 ≤ g ∨ M 43 g = 0) ∧ x = -1) ∨ (¬ (f < 0 ∨ 12 ≤ f ∨ M 43 f = 0 ∨ g < 0 ∨ 12 ≤ g ∨ M 43 g = 0) ∧ x = sm_ (fun i => hr (cmE M f g i) (M 45 g).toNat) (M 45 f).toNat))))) 0 0) := by
              intro N37
              induction N37 with
              | zero => intro n j  hN; omega
              | succ N37 ih37 =>
                intro n j  hN37 i37_0 i37_1 i37_2 i37_3 i37_4 i37_5
                refine Z_iload (n := 39) dX4_common_37 rfl rfl ?_
                refine Z_aload_n (n := 40) dX4_common_39 rfl rfl ?_
                refine Z_getA (n := 43) dX4_common_40 rfl ffX4_51 rfl rfl ?_
                refine Z_iload_n (n := 44) dX4_common_43 rfl rfl ?_
                refine Z_iald (n := 45) dX4_common_44 rfl rfl rfl (by first | decide | assumption) (by omega) (by omega) (fun r44 s44 => ?_)
                refine Z_icmp_ge (n := 48) (t := 91) dX4_common_45 rfl (by decide) (fun c45 => ?_) (fun c45 => ?_)
                · have nx4 : n = sm_ (fun i => hr (cmE M f g i) (M 45 g).toNat) (i + 1).toNat := by
                    rw [sm_up _ (by omega), i37_4, show M 45 g = j by omega]
                  refine Z_iinc (L' := [_, _, _, _, _, _]) (n := 94) dX4_common_91 rfl rfl (by decide) rfl rfl (by omega) rfl ?_
                  refine Z_goto (t := 23) dX4_common_94 (by decide) ?_
                  refine Z_loc (L' := [some _, some _, some _, some _, some _, none]) (lsub_same (lsub_same (lsub_same (lsub_same (lsub_same (lsub_none lsub_nil)))))) ?_
                  exact ih23 _ _  (by omega) (by first | assumption | omega | decide) (by first | assumption | omega | decide) (by first | assumption | omega | decide) (by first | assumption | omega | decide) (by exact nx4) (by omega)
                · refine Z_iload_n (n := 49) dX4_common_48 rfl rfl ?_
                  refine Z_aload_n (n := 50) dX4_common_49 rfl rfl ?_
                  refine Z_getA (n := 53) dX4_common_50 rfl ffX4_54 rfl rfl ?_
                  refine Z_sipush (n := 56) dX4_common_53 rfl (by decide) (by decide) ?_
                  refine Z_iload_n (n := 57) dX4_common_56 rfl rfl ?_
                  refine Z_imul (n := 58) dX4_common_57 rfl (by omega) ?_
                  refine Z_iload (n := 60) dX4_common_58 rfl rfl ?_
                  refine Z_iadd (n := 61) dX4_common_60 rfl (by omega) ?_
                  refine Z_iald (n := 62) dX4_common_61 rfl rfl rfl (by first | decide | assumption) (by omega) (by omega) (fun r61 s61 => ?_)
                  refine Z_aload_n (n := 63) dX4_common_62 rfl rfl ?_
                  refine Z_getA (n := 66) dX4_common_63 rfl ffX4_54 rfl rfl ?_
                  refine Z_sipush (n := 69) dX4_common_66 rfl (by decide) (by decide) ?_
                  refine Z_iload_n (n := 70) dX4_common_69 rfl rfl ?_
                  refine Z_imul (n := 71) dX4_common_70 rfl (by omega) ?_
                  refine Z_iload (n := 73) dX4_common_71 rfl rfl ?_
                  refine Z_iadd (n := 74) dX4_common_73 rfl (by omega) ?_
                  refine Z_iald (n := 75) dX4_common_74 rfl rfl rfl (by first | decide | assumption) (by omega) (by omega) (fun r74 s74 => ?_)
                  refine Z_icmp_ne (n := 78) (t := 82) dX4_common_75 rfl (by decide) (fun c75 => ?_) (fun c75 => ?_)
                  · have ny4 : n + 0 = sm_ (fun i => hr (cmE M f g i) (M 45 g).toNat) i.toNat + hr (cmE M f g i) (j + 1).toNat := by
                      have z := hr_up (cmE M f g i) (i := j) (by omega)
                      have nz : cmE M f g i j = 0 := ind_f c75
                      rw [if_pos nz] at z
                      omega
                    refine Z_iconst (n := 83) dX4_common_82 rfl (by decide) ?_
                    refine Z_iadd (n := 84) dX4_common_83 rfl (by omega) ?_
                    refine Z_istore_n (L' := [_, _, _, _, _, _]) (n := 85) dX4_common_84 rfl (by decide) rfl rfl ?_
                    refine Z_iinc (L' := [_, _, _, _, _, _]) (n := 88) dX4_common_85 rfl rfl (by decide) rfl rfl (by omega) rfl ?_
                    refine Z_goto (t := 37) dX4_common_88 (by decide) ?_
                    refine Z_loc (L' := [some _, some _, some _, some _, some _, some _]) (lsub_same (lsub_same (lsub_same (lsub_same (lsub_same (lsub_same lsub_nil)))))) ?_
                    exact ih37 _ _  (by omega) (by first | assumption | omega | decide) (by first | assumption | omega | decide) (by first | assumption | omega | decide) (by first | assumption | omega | decide) (by exact ny4) (by omega)
                  · have ny4 : n + 1 = sm_ (fun i => hr (cmE M f g i) (M 45 g).toNat) i.toNat + hr (cmE M f g i) (j + 1).toNat := by
                      have z := hr_up (cmE M f g i) (i := j) (by omega)
                      have nz : ¬ cmE M f g i j = 0 := ind_nz.mpr c75
                      rw [if_neg nz] at z
                      omega
                    refine Z_iconst (n := 79) dX4_common_78 rfl (by decide) ?_
                    refine Z_goto (t := 83) dX4_common_79 (by decide) ?_
                    refine Z_iadd (n := 84) dX4_common_83 rfl (by omega) ?_
                    refine Z_istore_n (L' := [_, _, _, _, _, _]) (n := 85) dX4_common_84 rfl (by decide) rfl rfl ?_
                    refine Z_iinc (L' := [_, _, _, _, _, _]) (n := 88) dX4_common_85 rfl rfl (by decide) rfl rfl (by omega) rfl ?_
                    refine Z_goto (t := 37) dX4_common_88 (by decide) ?_
                    refine Z_loc (L' := [some _, some _, some _, some _, some _, some _]) (lsub_same (lsub_same (lsub_same (lsub_same (lsub_same (lsub_same lsub_nil)))))) ?_
                    exact ih37 _ _  (by omega) (by first | assumption | omega | decide) (by first | assumption | omega | decide) (by first | assumption | omega | decide) (by first | assumption | omega | decide) (by exact ny4) (by omega)
            refine Z_loc (L' := [some _, some _, some _, some _, some _, some _]) (lsub_same (lsub_same (lsub_same (lsub_same (lsub_same (lsub_same lsub_nil)))))) ?_
            exact lp37 _ _ _  (Nat.lt_succ_self _) (by first | assumption | omega | decide) (by first | assumption | omega | decide) (by first | assumption | omega | decide) (by first | assumption | omega | decide) (by exact en4) (by omega)
      refine Z_loc (L' := [some _, some _, some _, some _, some _, none]) (lsub_same (lsub_same (lsub_same (lsub_same (lsub_same (lsub_none lsub_nil)))))) ?_
      exact lp23 _ _ _  (Nat.lt_succ_self _) (by first | assumption | omega | decide) (by first | assumption | omega | decide) (by first | assumption | omega | decide) (by first | assumption | omega | decide) (by rfl) (by omega)
    · refine Z_iconst (n := 17) dX4_common_16 rfl (by decide) ?_
      refine Z_iret dX4_common_17 rfl ?_
      exact ⟨rfl, rfl, Or.inl ⟨by omega, rfl⟩⟩
