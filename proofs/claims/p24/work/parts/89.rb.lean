/-! ===== readers: their answers ===== -/
set_option maxRecDepth 20000 in
theorem zX3_same_f {G : tl_G} {M : zM} {J : zJ} {f g : Int}  : ZN G yX3_same mX3_same 2 kAll [vR 0, vI f, vI g] F1 M J (qI (fun x M' J' => M' = M ∧ J' = J ∧ (((f < 0 ∨ 12 ≤ f ∨ M 12 f = -1 ∨ g < 0 ∨ 12 ≤ g ∨ M 12 g = -1) ∧ x = -1) ∨ (¬ (f < 0 ∨ 12 ≤ f ∨ M 12 f = -1 ∨ g < 0 ∨ 12 ≤ g ∨ M 12 g = -1) ∧ ((M 12 f = M 12 g ∧ x = 1) ∨ (¬ M 12 f = M 12 g ∧ x = 0)))))) := by
  refine ZN_of (L := [_, _, _]) (by decide) rfl rfl (Nat.le_of_ble_eq_true rfl) rfl (fun hav => ?_)
  refine Z_aload_n (n := 1) dX3_same_0 rfl rfl ?_
  refine Z_iload_n (n := 2) dX3_same_1 rfl rfl ?_
  refine Z_callVi (n := 5) [_] _ dX3_same_2 rfl cwX3_139 rfl rfl (by first | rfl | exact nS0 (nA_at (by omega) (by omega))) (Nat.le_of_ble_eq_true rfl) (by refine ⟨?_, ?_, ?_, ?_⟩ <;> exact Nat.le_of_ble_eq_true rfl) (fun _ h => h) (zX3_hasFunction  ) ?_
  intro x2 M2 J2 z2 f2 q2
  obtain ⟨e2_1, e2_2, h2⟩ := q2
  replace e2_1 := e2_1.symm; subst e2_1
  replace e2_2 := e2_2.symm; subst e2_2
  refine Z_if_eq (n := 8) (t := 16) dX3_same_5 rfl (by decide) (fun c5 => ?_) (fun c5 => ?_)
  · refine Z_iconst (n := 17) dX3_same_16 rfl (by decide) ?_
    refine Z_iret dX3_same_17 rfl ?_
    exact ⟨rfl, rfl, Or.inl ⟨by omega, rfl⟩⟩
  · refine Z_aload_n (n := 9) dX3_same_8 rfl rfl ?_
    refine Z_iload_n (n := 10) dX3_same_9 rfl rfl ?_
    refine Z_callVi (n := 13) [_] _ dX3_same_10 rfl cwX3_139 rfl rfl (by first | rfl | exact nS0 (nA_at (by omega) (by omega))) (Nat.le_of_ble_eq_true rfl) (by refine ⟨?_, ?_, ?_, ?_⟩ <;> exact Nat.le_of_ble_eq_true rfl) (fun _ h => h) (zX3_hasFunction  ) ?_
    intro x10 M10 J10 z10 f10 q10
    obtain ⟨e10_1, e10_2, h10⟩ := q10
    replace e10_1 := e10_1.symm; subst e10_1
    replace e10_2 := e10_2.symm; subst e10_2
    refine Z_if_ne (n := 16) (t := 18) dX3_same_13 rfl (by decide) (fun c13 => ?_) (fun c13 => ?_)
    · refine Z_aload_n (n := 19) dX3_same_18 rfl rfl ?_
      refine Z_getA (n := 22) dX3_same_19 rfl ffX3_29 (by first | rfl | exact nS0 (nA_at (by omega) (by omega))) (by first | rfl | exact nS0 (nA_at (by omega) (by omega))) ?_
      refine Z_iload_n (n := 23) dX3_same_22 rfl rfl ?_
      refine Z_iald (n := 24) dX3_same_23 rfl (by first | rfl | exact nS0 (nA_at (by omega) (by omega))) rfl (by first | decide | assumption) (by omega) (by omega) (fun r23 s23 => ?_)
      refine Z_aload_n (n := 25) dX3_same_24 rfl rfl ?_
      refine Z_getA (n := 28) dX3_same_25 rfl ffX3_29 (by first | rfl | exact nS0 (nA_at (by omega) (by omega))) (by first | rfl | exact nS0 (nA_at (by omega) (by omega))) ?_
      refine Z_iload_n (n := 29) dX3_same_28 rfl rfl ?_
      refine Z_iald (n := 30) dX3_same_29 rfl (by first | rfl | exact nS0 (nA_at (by omega) (by omega))) rfl (by first | decide | assumption) (by omega) (by omega) (fun r29 s29 => ?_)
      refine Z_icmp_ne (n := 33) (t := 37) dX3_same_30 rfl (by decide) (fun c30 => ?_) (fun c30 => ?_)
      · refine Z_iconst (n := 38) dX3_same_37 rfl (by decide) ?_
        refine Z_iret dX3_same_38 rfl ?_
        first
          | exact ⟨rfl, rfl, Or.inr ⟨by omega, Or.inl ⟨c30, rfl⟩⟩⟩
          | exact ⟨rfl, rfl, Or.inr ⟨by omega, Or.inr ⟨c30, rfl⟩⟩⟩
      · refine Z_iconst (n := 34) dX3_same_33 rfl (by decide) ?_
        refine Z_goto (t := 38) dX3_same_34 (by decide) ?_
        refine Z_iret dX3_same_38 rfl ?_
        first
          | exact ⟨rfl, rfl, Or.inr ⟨by omega, Or.inl ⟨c30, rfl⟩⟩⟩
          | exact ⟨rfl, rfl, Or.inr ⟨by omega, Or.inr ⟨c30, rfl⟩⟩⟩
    · refine Z_iconst (n := 17) dX3_same_16 rfl (by decide) ?_
      refine Z_iret dX3_same_17 rfl ?_
      exact ⟨rfl, rfl, Or.inl ⟨by omega, rfl⟩⟩
def smQ (B C : Int → Int64) (k e : Int) : Prop := (e = 1 ∧ ∀ j : Int, 0 ≤ j → j < k → B j = C j) ∨ (e = 0 ∧ ∃ j : Int, (0 ≤ j ∧ j < 4) ∧ ¬ B j = C j)
theorem sm_y {B C : Int → Int64} {k e : Int} (h : smQ B C k e) (he : ¬ e = 0) (q : B k = C k) : smQ B C (k + 1) 1 := by
  rcases h with ⟨-, a⟩ | ⟨a, -⟩
  · refine Or.inl ⟨rfl, fun j j0 j1 => ?_⟩
    by_cases w : j = k
    · rw [w]; exact q
    · exact a j j0 (by omega)
  · exact absurd a he
theorem sm_n {B C : Int → Int64} {k e : Int} (h : smQ B C k e) (k0 : 0 ≤ k) (k1 : k < 4) (q : e = 0 ∨ ¬ B k = C k) : smQ B C (k + 1) 0 := by
  rcases q with q | q
  · rcases h with ⟨a, -⟩ | ⟨-, b⟩
    · omega
    · exact Or.inr ⟨rfl, b⟩
  · exact Or.inr ⟨rfl, k, ⟨k0, k1⟩, q⟩
theorem sm_01 {B C : Int → Int64} {k e : Int} (h : smQ B C k e) : e = 0 ∨ e = 1 := by
  rcases h with ⟨a, -⟩ | ⟨a, -⟩
  · exact Or.inr a
  · exact Or.inl a
set_option maxRecDepth 20000 in
theorem zX4_same_g {G : tl_G} {M : zM} {J : zJ} {f g : Int}  : ZN G yX4_same mX4_same 3 kAll [vR 31, vI f, vI g] F1 M J (qI (fun x M' J' => M' = M ∧ J' = J ∧ (((f < 0 ∨ 12 ≤ f ∨ M 43 f = 0 ∨ g < 0 ∨ 12 ≤ g ∨ M 43 g = 0) ∧ x = -1) ∨ (¬ (f < 0 ∨ 12 ≤ f ∨ M 43 f = 0 ∨ g < 0 ∨ 12 ≤ g ∨ M 43 g = 0) ∧ smQ (bitF J f) (bitF J g) 4 x)))) := by
  refine ZN_of (L := [_, _, _, _, _]) (by decide) rfl rfl (Nat.le_of_ble_eq_true rfl) rfl (fun hav => ?_)
  refine Z_aload_n (n := 1) dX4_same_0 rfl rfl ?_
  refine Z_iload_n (n := 2) dX4_same_1 rfl rfl ?_
  refine Z_callVi (n := 5) [_] _ dX4_same_2 rfl cwX4_223 rfl rfl rfl (Nat.le_of_ble_eq_true rfl) (by refine ⟨?_, ?_, ?_, ?_⟩ <;> exact Nat.le_of_ble_eq_true rfl) (fun _ h => h) (zX4_isFunction  ) ?_
  intro x2 M2 J2 z2 f2 q2
  obtain ⟨e2_1, e2_2, h2⟩ := q2
  replace e2_1 := e2_1.symm; subst e2_1
  replace e2_2 := e2_2.symm; subst e2_2
  refine Z_if_eq (n := 8) (t := 16) dX4_same_5 rfl (by decide) (fun c5 => ?_) (fun c5 => ?_)
  · refine Z_iconst (n := 17) dX4_same_16 rfl (by decide) ?_
    refine Z_iret dX4_same_17 rfl ?_
    exact ⟨rfl, rfl, Or.inl ⟨by omega, rfl⟩⟩
  · refine Z_aload_n (n := 9) dX4_same_8 rfl rfl ?_
    refine Z_iload_n (n := 10) dX4_same_9 rfl rfl ?_
    refine Z_callVi (n := 13) [_] _ dX4_same_10 rfl cwX4_223 rfl rfl rfl (Nat.le_of_ble_eq_true rfl) (by refine ⟨?_, ?_, ?_, ?_⟩ <;> exact Nat.le_of_ble_eq_true rfl) (fun _ h => h) (zX4_isFunction  ) ?_
    intro x10 M10 J10 z10 f10 q10
    obtain ⟨e10_1, e10_2, h10⟩ := q10
    replace e10_1 := e10_1.symm; subst e10_1
    replace e10_2 := e10_2.symm; subst e10_2
    refine Z_if_ne (n := 16) (t := 18) dX4_same_13 rfl (by decide) (fun c13 => ?_) (fun c13 => ?_)
    · refine Z_iconst (n := 19) dX4_same_18 rfl (by decide) ?_
      refine Z_istore_n (L' := [_, _, _, _, _]) (n := 20) dX4_same_19 rfl (by decide) rfl rfl ?_
      refine Z_iconst (n := 21) dX4_same_20 rfl (by decide) ?_
      refine Z_istore (L' := [_, _, _, _, _]) (n := 23) dX4_same_21 rfl (by decide) rfl rfl ?_
      have lp23 : ∀ (N23 : Nat) (e k : Int) , ((4 - k).toNat) < N23 → (0 ≤ k) → (k ≤ 4) → (smQ (bitF J f) (bitF J g) k e) → TZ G mX4_same (tl_rm 3 0 0) 0 0 kAll M J 23 [some (vR 31), some (vI f), some (vI g), some (vI e), some (vI k)] [] F1 M J (ZM G (zPost G kAll F1 M J (qI (fun x M' J' => M' = M ∧ J' = J ∧ (((f < 0 ∨ 12 ≤ f ∨ M 43 f = 0 ∨ g < 0 ∨ 12 ≤ g ∨ M 43 g = 0) ∧ x = -1) ∨ (¬ (f < 0 ∨ 12 ≤ f ∨ M 43 f = 0 ∨ g < 0 ∨ 12 ≤ g ∨ M 43 g = 0) ∧ smQ (bitF J f) (bitF J g) 4 x))))) 0 0) := by
        intro N23
        induction N23 with
        | zero => intro e k  hN; omega
        | succ N23 ih23 =>
          intro e k  hN23 i23_0 i23_1 i23_2
          refine Z_iload (n := 25) dX4_same_23 rfl rfl ?_
          refine Z_iconst (n := 26) dX4_same_25 rfl (by decide) ?_
          refine Z_icmp_ge (n := 29) (t := 71) dX4_same_26 rfl (by decide) (fun c26 => ?_) (fun c26 => ?_)
          · refine Z_iload_n (n := 72) dX4_same_71 rfl rfl ?_
            refine Z_if_eq (n := 75) (t := 79) dX4_same_72 rfl (by decide) (fun c72 => ?_) (fun c72 => ?_)
            · refine Z_iconst (n := 80) dX4_same_79 rfl (by decide) ?_
              refine Z_iret dX4_same_80 rfl ?_
              have e4 : k = 4 := by omega
              rw [e4] at i23_2
              have q := sm_01 i23_2
              refine ⟨rfl, rfl, Or.inr ⟨by omega, ?_⟩⟩
              first
                | (rw [show e = 1 by omega] at i23_2; exact i23_2)
                | (rw [show e = 0 by omega] at i23_2; exact i23_2)
            · refine Z_iconst (n := 76) dX4_same_75 rfl (by decide) ?_
              refine Z_goto (t := 80) dX4_same_76 (by decide) ?_
              refine Z_iret dX4_same_80 rfl ?_
              have e4 : k = 4 := by omega
              rw [e4] at i23_2
              have q := sm_01 i23_2
              refine ⟨rfl, rfl, Or.inr ⟨by omega, ?_⟩⟩
              first
                | (rw [show e = 1 by omega] at i23_2; exact i23_2)
                | (rw [show e = 0 by omega] at i23_2; exact i23_2)
          · refine Z_iload_n (n := 30) dX4_same_29 rfl rfl ?_
            refine Z_if_eq (n := 33) (t := 63) dX4_same_30 rfl (by decide) (fun c30 => ?_) (fun c30 => ?_)
            · have nx := sm_n i23_2 (by omega) (by omega) (Or.inl c30)
              refine Z_iconst (n := 64) dX4_same_63 rfl (by decide) ?_
              refine Z_istore_n (L' := [_, _, _, _, _]) (n := 65) dX4_same_64 rfl (by decide) rfl rfl ?_
              refine Z_iinc (L' := [_, _, _, _, _]) (n := 68) dX4_same_65 rfl rfl (by decide) rfl rfl (by omega) rfl ?_
              refine Z_goto (t := 23) dX4_same_68 (by decide) ?_
              refine Z_loc (L' := [some _, some _, some _, some _, some _]) (lsub_same (lsub_same (lsub_same (lsub_same (lsub_same lsub_nil))))) ?_
              exact ih23 _ _  (by omega) (by first | assumption | omega | decide) (by first | assumption | omega | decide) (by exact nx)
            · refine Z_aload_n (n := 34) dX4_same_33 rfl rfl ?_
              refine Z_getA (n := 37) dX4_same_34 rfl ffX4_47 rfl rfl ?_
              refine Z_iconst (n := 38) dX4_same_37 rfl (by decide) ?_
              refine Z_iload_n (n := 39) dX4_same_38 rfl rfl ?_
              refine Z_imul (n := 40) dX4_same_39 rfl (by omega) ?_
              refine Z_iload (n := 42) dX4_same_40 rfl rfl ?_
              refine Z_iadd (n := 43) dX4_same_42 rfl (by omega) ?_
              refine Z_lald (n := 44) dX4_same_43 rfl rfl (by decide) (by omega) (by omega) ?_
              refine Z_aload_n (n := 45) dX4_same_44 rfl rfl ?_
              refine Z_getA (n := 48) dX4_same_45 rfl ffX4_47 rfl rfl ?_
              refine Z_iconst (n := 49) dX4_same_48 rfl (by decide) ?_
              refine Z_iload_n (n := 50) dX4_same_49 rfl rfl ?_
              refine Z_imul (n := 51) dX4_same_50 rfl (by omega) ?_
              refine Z_iload (n := 53) dX4_same_51 rfl rfl ?_
              refine Z_iadd (n := 54) dX4_same_53 rfl (by omega) ?_
              refine Z_lald (n := 55) dX4_same_54 rfl rfl (by decide) (by omega) (by omega) ?_
              refine Z_lcmp (n := 56) dX4_same_55 rfl ?_
              refine Z_if_ne (n := 59) (t := 63) dX4_same_56 rfl (by decide) (fun c56 => ?_) (fun c56 => ?_)
              · have nx := sm_n i23_2 (by omega) (by omega) (Or.inr (fun t => c56 ((zcmp_eq _ _).mpr t)))
                refine Z_iconst (n := 64) dX4_same_63 rfl (by decide) ?_
                refine Z_istore_n (L' := [_, _, _, _, _]) (n := 65) dX4_same_64 rfl (by decide) rfl rfl ?_
                refine Z_iinc (L' := [_, _, _, _, _]) (n := 68) dX4_same_65 rfl rfl (by decide) rfl rfl (by omega) rfl ?_
                refine Z_goto (t := 23) dX4_same_68 (by decide) ?_
                refine Z_loc (L' := [some _, some _, some _, some _, some _]) (lsub_same (lsub_same (lsub_same (lsub_same (lsub_same lsub_nil))))) ?_
                exact ih23 _ _  (by omega) (by first | assumption | omega | decide) (by first | assumption | omega | decide) (by exact nx)
              · have nx := sm_y i23_2 c30 ((zcmp_eq _ _).mp c56)
                refine Z_iconst (n := 60) dX4_same_59 rfl (by decide) ?_
                refine Z_goto (t := 64) dX4_same_60 (by decide) ?_
                refine Z_istore_n (L' := [_, _, _, _, _]) (n := 65) dX4_same_64 rfl (by decide) rfl rfl ?_
                refine Z_iinc (L' := [_, _, _, _, _]) (n := 68) dX4_same_65 rfl rfl (by decide) rfl rfl (by omega) rfl ?_
                refine Z_goto (t := 23) dX4_same_68 (by decide) ?_
                refine Z_loc (L' := [some _, some _, some _, some _, some _]) (lsub_same (lsub_same (lsub_same (lsub_same (lsub_same lsub_nil))))) ?_
                exact ih23 _ _  (by omega) (by first | assumption | omega | decide) (by first | assumption | omega | decide) (by exact nx)
      refine Z_loc (L' := [some _, some _, some _, some _, some _]) (lsub_same (lsub_same (lsub_same (lsub_same (lsub_same lsub_nil))))) ?_
      exact lp23 _ _ _  (Nat.lt_succ_self _) (by first | assumption | omega | decide) (by first | assumption | omega | decide) (by exact Or.inl ⟨rfl, fun j a b => by omega⟩)
    · refine Z_iconst (n := 17) dX4_same_16 rfl (by decide) ?_
      refine Z_iret dX4_same_17 rfl ?_
      exact ⟨rfl, rfl, Or.inl ⟨by omega, rfl⟩⟩
