/-! ===== the class: its face ===== -/
abbrev kF (_ : Nat) : Prop := False
abbrev kPub (a : Nat) : Prop := 15 < a ∧ ¬ a = 20 ∧ ¬ a = 25 ∧ ¬ a = 30
def cI (M : zM) : Prop := pI M ∧ ordOK M ∧ netOK M 16 ∧ netOK M 21 ∧ netOK M 26
theorem cI_net {M : zM} (h : cI M) {b : Nat} (hb : NetAt b) : netOK M b := by
  rcases hb with rfl | rfl | rfl
  · exact h.2.2.1
  · exact h.2.2.2.1
  · exact h.2.2.2.2
theorem cI_mk {M M' : zM} {J J' : zJ} (hc : cI M) (fr : ∀ a, kPub a → M' a = M a ∧ J' a = J a) (hp : pI M') (ho : ordOK M') : cI M' :=
  ⟨hp, ho, netOK_fr hc.2.2.1 (fr 16 (by decide)).1 (fr 17 (by decide)).1 (fr 18 (by decide)).1 (fr 19 (by decide)).1, netOK_fr hc.2.2.2.1 (fr 21 (by decide)).1 (fr 22 (by decide)).1 (fr 23 (by decide)).1 (fr 24 (by decide)).1, netOK_fr hc.2.2.2.2 (fr 26 (by decide)).1 (fr 27 (by decide)).1 (fr 28 (by decide)).1 (fr 29 (by decide)).1⟩
def noOut (M : zM) : Prop := ∀ j : Int, 0 ≤ j → j < 3 → M (nA j) 5 = 0
set_option maxRecDepth 20000 in
theorem zX3_gate {G : tl_G} {M : zM} {J : zJ} {net k u v w : Int}  : ZN G yX3_gate mX3_gate 2 kF [vR 0, vI net, vI k, vI u, vI v, vI w] F1 M J (qI (fun x M' J' => J' = J ∧ (((net < 0 ∨ 3 ≤ net) ∧ x = -1 ∧ M' = M) ∨ (0 ≤ net ∧ net < 3 ∧ (k < 0 ∨ 10 < k) ∧ x = -2 ∧ M' = M) ∨ (0 ≤ net ∧ net < 3 ∧ 0 ≤ k ∧ k ≤ 10 ∧ ¬ ((opF k < 1 ∨ (0 ≤ u ∧ u < M (nA net) 4)) ∧ (opF k < 2 ∨ (0 ≤ v ∧ v < M (nA net) 4)) ∧ (opF k < 3 ∨ (0 ≤ w ∧ w < M (nA net) 4))) ∧ x = -1 ∧ M' = M) ∨ (0 ≤ net ∧ net < 3 ∧ 0 ≤ k ∧ k ≤ 10 ∧ ((opF k < 1 ∨ (0 ≤ u ∧ u < M (nA net) 4)) ∧ (opF k < 2 ∨ (0 ≤ v ∧ v < M (nA net) 4)) ∧ (opF k < 3 ∨ (0 ≤ w ∧ w < M (nA net) 4))) ∧ ((k = 0 ∧ (u < 0 ∨ 8 ≤ u) ∧ x = -2 ∧ M' = M) ∨ ((¬ k = 0 ∨ (0 ≤ u ∧ u < 8)) ∧ ((x = -4 ∧ M' = M ∧ 40 ≤ M (nA net) 4) ∨ (x = M (nA net) 4 ∧ M (nA net) 4 < 40 ∧ M' = uz (uz (uz (uz (uz M (nA net + 1) (M (nA net) 4) k) (nA net + 2) (3 * M (nA net) 4) u) (nA net + 2) (3 * M (nA net) 4 + 1) v) (nA net + 2) (3 * M (nA net) 4 + 2) w) (nA net) 4 (M (nA net) 4 + 1))))))))) := by
  refine ZN_of (L := [_, _, _, _, _, _]) (by decide) rfl rfl (Nat.le_of_ble_eq_true rfl) rfl (fun hav => ?_)
  refine Z_iload_n (n := 1) dX3_gate_0 rfl rfl ?_
  refine Z_callSi (n := 4) [_] _ dX3_gate_1 rfl cwX3_62 rfl rfl (Nat.le_of_ble_eq_true rfl) (by refine ⟨?_, ?_, ?_, ?_⟩ <;> exact Nat.le_of_ble_eq_true rfl) (fun _ _ => trivial) (zX3_isNet  ) ?_
  intro x1 M1 J1 z1 f1 q1
  obtain ⟨e1_1, e1_2, h1⟩ := q1
  replace e1_1 := e1_1.symm; subst e1_1
  replace e1_2 := e1_2.symm; subst e1_2
  refine Z_if_ne (n := 7) (t := 9) dX3_gate_4 rfl (by decide) (fun c4 => ?_) (fun c4 => ?_)
  · refine Z_iload_n (n := 10) dX3_gate_9 rfl rfl ?_
    refine Z_if_lt (n := 13) (t := 19) dX3_gate_10 rfl (by decide) (fun c10 => ?_) (fun c10 => ?_)
    · refine Z_bipush (n := 21) dX3_gate_19 rfl (by decide) (by decide) ?_
      refine Z_iret dX3_gate_21 rfl ?_
      exact ⟨rfl, Or.inr (Or.inl ⟨by omega, by omega, by omega, rfl, rfl⟩)⟩
    · refine Z_iload_n (n := 14) dX3_gate_13 rfl rfl ?_
      refine Z_bipush (n := 16) dX3_gate_14 rfl (by decide) (by decide) ?_
      refine Z_icmp_le (n := 19) (t := 22) dX3_gate_16 rfl (by decide) (fun c16 => ?_) (fun c16 => ?_)
      · refine Z_aload_n (n := 23) dX3_gate_22 rfl rfl ?_
        refine Z_getA (n := 26) dX3_gate_23 rfl ffX3_11 (by first | rfl | exact nS0 (nA_at (by omega) (by omega))) (by first | rfl | exact nS0 (nA_at (by omega) (by omega))) ?_
        refine Z_iload_n (n := 27) dX3_gate_26 rfl rfl ?_
        refine Z_aald (n := 28) dX3_gate_27 rfl (by first | rfl | exact nS0 (nA_at (by omega) (by omega))) (by decide) (by omega) (by omega) (nA_P (by omega) (by omega)) ?_
        refine Z_iload_n (n := 29) dX3_gate_28 rfl rfl ?_
        refine Z_iload_n (n := 30) dX3_gate_29 rfl rfl ?_
        refine Z_iload (n := 32) dX3_gate_30 rfl rfl ?_
        refine Z_iload (n := 34) dX3_gate_32 rfl rfl ?_
        refine Z_callVi (n := 37) [_, _, _, _] _ dX3_gate_34 rfl cwX3_66 rfl rfl (by first | rfl | exact nS0 (nA_at (by omega) (by omega))) (Nat.le_of_ble_eq_true rfl) (by refine ⟨?_, ?_, ?_, ?_⟩ <;> exact Nat.le_of_ble_eq_true rfl) (fun _ _ => trivial) (zX0_hasOperands  (by exact nA_at (by omega) (by omega)) (by first | assumption | omega | decide) (by first | assumption | omega | decide)) ?_
        intro x34 M34 J34 z34 f34 q34
        obtain ⟨e34_1, e34_2, h34⟩ := q34
        replace e34_1 := e34_1.symm; subst e34_1
        replace e34_2 := e34_2.symm; subst e34_2
        refine Z_if_ne (n := 40) (t := 42) dX3_gate_37 rfl (by decide) (fun c37 => ?_) (fun c37 => ?_)
        · refine Z_iload_n (n := 43) dX3_gate_42 rfl rfl ?_
          refine Z_if_ne (n := 46) (t := 56) dX3_gate_43 rfl (by decide) (fun c43 => ?_) (fun c43 => ?_)
          · refine Z_aload_n (n := 57) dX3_gate_56 rfl rfl ?_
            refine Z_getA (n := 60) dX3_gate_57 rfl ffX3_11 (by first | rfl | exact nS0 (nA_at (by omega) (by omega))) (by first | rfl | exact nS0 (nA_at (by omega) (by omega))) ?_
            refine Z_iload_n (n := 61) dX3_gate_60 rfl rfl ?_
            refine Z_aald (n := 62) dX3_gate_61 rfl (by first | rfl | exact nS0 (nA_at (by omega) (by omega))) (by decide) (by omega) (by omega) (nA_P (by omega) (by omega)) ?_
            refine Z_iload_n (n := 63) dX3_gate_62 rfl rfl ?_
            refine Z_iload_n (n := 64) dX3_gate_63 rfl rfl ?_
            refine Z_iload (n := 66) dX3_gate_64 rfl rfl ?_
            refine Z_iload (n := 68) dX3_gate_66 rfl rfl ?_
            refine Z_callVi (n := 71) [_, _, _, _] _ dX3_gate_68 rfl cwX3_73 rfl rfl (by first | rfl | exact nS0 (nA_at (by omega) (by omega))) (Nat.le_of_ble_eq_true rfl) (by refine ⟨?_, ?_, ?_, ?_⟩ <;> exact Nat.le_of_ble_eq_true rfl) (fun _ h => h) (zX0_addGate  (by exact nA_at (by omega) (by omega)) (by first | assumption | omega | decide) (by first | assumption | omega | decide) (by exact fun h => h) (by exact fun h => h) (by exact fun h => h)) ?_
            intro x68 M68 J68 z68 f68 q68
            obtain ⟨e68_1, h68⟩ := q68
            replace e68_1 := e68_1.symm; subst e68_1
            refine Z_iret dX3_gate_71 rfl ?_
            rcases h34 with ⟨-, q⟩ | ⟨q, -⟩
            · exact ⟨rfl, Or.inr (Or.inr (Or.inr ⟨by omega, by omega, by omega, by omega, q, Or.inr ⟨by omega, h68⟩⟩))⟩
            · omega
          · refine Z_iload_n (n := 47) dX3_gate_46 rfl rfl ?_
            refine Z_callSi (n := 50) [_] _ dX3_gate_47 rfl cwX3_70 rfl rfl (Nat.le_of_ble_eq_true rfl) (by refine ⟨?_, ?_, ?_, ?_⟩ <;> exact Nat.le_of_ble_eq_true rfl) (fun _ _ => trivial) (zX3_isVariable  ) ?_
            intro x47 M47 J47 z47 f47 q47
            obtain ⟨e47_1, e47_2, h47⟩ := q47
            replace e47_1 := e47_1.symm; subst e47_1
            replace e47_2 := e47_2.symm; subst e47_2
            refine Z_if_ne (n := 53) (t := 56) dX3_gate_50 rfl (by decide) (fun c50 => ?_) (fun c50 => ?_)
            · refine Z_aload_n (n := 57) dX3_gate_56 rfl rfl ?_
              refine Z_getA (n := 60) dX3_gate_57 rfl ffX3_11 (by first | rfl | exact nS0 (nA_at (by omega) (by omega))) (by first | rfl | exact nS0 (nA_at (by omega) (by omega))) ?_
              refine Z_iload_n (n := 61) dX3_gate_60 rfl rfl ?_
              refine Z_aald (n := 62) dX3_gate_61 rfl (by first | rfl | exact nS0 (nA_at (by omega) (by omega))) (by decide) (by omega) (by omega) (nA_P (by omega) (by omega)) ?_
              refine Z_iload_n (n := 63) dX3_gate_62 rfl rfl ?_
              refine Z_iload_n (n := 64) dX3_gate_63 rfl rfl ?_
              refine Z_iload (n := 66) dX3_gate_64 rfl rfl ?_
              refine Z_iload (n := 68) dX3_gate_66 rfl rfl ?_
              refine Z_callVi (n := 71) [_, _, _, _] _ dX3_gate_68 rfl cwX3_73 rfl rfl (by first | rfl | exact nS0 (nA_at (by omega) (by omega))) (Nat.le_of_ble_eq_true rfl) (by refine ⟨?_, ?_, ?_, ?_⟩ <;> exact Nat.le_of_ble_eq_true rfl) (fun _ h => h) (zX0_addGate  (by exact nA_at (by omega) (by omega)) (by first | assumption | omega | decide) (by first | assumption | omega | decide) (by exact fun h => h) (by exact fun h => h) (by exact fun h => h)) ?_
              intro x68 M68 J68 z68 f68 q68
              obtain ⟨e68_1, h68⟩ := q68
              replace e68_1 := e68_1.symm; subst e68_1
              refine Z_iret dX3_gate_71 rfl ?_
              rcases h34 with ⟨-, q⟩ | ⟨q, -⟩
              · exact ⟨rfl, Or.inr (Or.inr (Or.inr ⟨by omega, by omega, by omega, by omega, q, Or.inr ⟨by omega, h68⟩⟩))⟩
              · omega
            · refine Z_bipush (n := 55) dX3_gate_53 rfl (by decide) (by decide) ?_
              refine Z_iret dX3_gate_55 rfl ?_
              rcases h34 with ⟨-, q⟩ | ⟨q, -⟩
              · exact ⟨rfl, Or.inr (Or.inr (Or.inr ⟨by omega, by omega, by omega, by omega, q, Or.inl ⟨by omega, by omega, rfl, rfl⟩⟩))⟩
              · omega
        · refine Z_iconst (n := 41) dX3_gate_40 rfl (by decide) ?_
          refine Z_iret dX3_gate_41 rfl ?_
          rcases h34 with ⟨q, -⟩ | ⟨-, q⟩
          · omega
          · exact ⟨rfl, Or.inr (Or.inr (Or.inl ⟨by omega, by omega, by omega, by omega, q, rfl, rfl⟩))⟩
      · refine Z_bipush (n := 21) dX3_gate_19 rfl (by decide) (by decide) ?_
        refine Z_iret dX3_gate_21 rfl ?_
        exact ⟨rfl, Or.inr (Or.inl ⟨by omega, by omega, by omega, rfl, rfl⟩)⟩
  · refine Z_iconst (n := 8) dX3_gate_7 rfl (by decide) ?_
    refine Z_iret dX3_gate_8 rfl ?_
    exact ⟨rfl, Or.inl ⟨by omega, rfl, rfl⟩⟩
set_option maxRecDepth 20000 in
theorem zX3_output {G : tl_G} {M : zM} {J : zJ} {net g : Int}  : ZN G yX3_output mX3_output 2 kF [vR 0, vI net, vI g] F1 M J (qI (fun x M' J' => J' = J ∧ (((net < 0 ∨ 3 ≤ net) ∧ x = -1 ∧ M' = M) ∨ (0 ≤ net ∧ net < 3 ∧ (g < 0 ∨ M (nA net) 4 ≤ g) ∧ x = -1 ∧ M' = M) ∨ (0 ≤ net ∧ net < 3 ∧ 0 ≤ g ∧ g < M (nA net) 4 ∧ ((x = -4 ∧ M' = M ∧ 4 ≤ M (nA net) 5) ∨ (x = M (nA net) 5 ∧ M (nA net) 5 < 4 ∧ M' = uz (uz M (nA net + 3) (M (nA net) 5) g) (nA net) 5 (M (nA net) 5 + 1))))))) := by
  refine ZN_of (L := [_, _, _]) (by decide) rfl rfl (Nat.le_of_ble_eq_true rfl) rfl (fun hav => ?_)
  refine Z_iload_n (n := 1) dX3_output_0 rfl rfl ?_
  refine Z_callSi (n := 4) [_] _ dX3_output_1 rfl cwX3_62 rfl rfl (Nat.le_of_ble_eq_true rfl) (by refine ⟨?_, ?_, ?_, ?_⟩ <;> exact Nat.le_of_ble_eq_true rfl) (fun _ _ => trivial) (zX3_isNet  ) ?_
  intro x1 M1 J1 z1 f1 q1
  obtain ⟨e1_1, e1_2, h1⟩ := q1
  replace e1_1 := e1_1.symm; subst e1_1
  replace e1_2 := e1_2.symm; subst e1_2
  refine Z_if_eq (n := 7) (t := 20) dX3_output_4 rfl (by decide) (fun c4 => ?_) (fun c4 => ?_)
  · refine Z_iconst (n := 21) dX3_output_20 rfl (by decide) ?_
    refine Z_iret dX3_output_21 rfl ?_
    first | exact ⟨rfl, Or.inl ⟨by omega, rfl, rfl⟩⟩ | exact ⟨rfl, Or.inr (Or.inl ⟨by omega, by omega, by omega, rfl, rfl⟩)⟩
  · refine Z_aload_n (n := 8) dX3_output_7 rfl rfl ?_
    refine Z_getA (n := 11) dX3_output_8 rfl ffX3_11 (by first | rfl | exact nS0 (nA_at (by omega) (by omega))) (by first | rfl | exact nS0 (nA_at (by omega) (by omega))) ?_
    refine Z_iload_n (n := 12) dX3_output_11 rfl rfl ?_
    refine Z_aald (n := 13) dX3_output_12 rfl (by first | rfl | exact nS0 (nA_at (by omega) (by omega))) (by decide) (by omega) (by omega) (nA_P (by omega) (by omega)) ?_
    refine Z_iload_n (n := 14) dX3_output_13 rfl rfl ?_
    refine Z_callVi (n := 17) [_] _ dX3_output_14 rfl cwX3_77 rfl rfl (by first | rfl | exact nS0 (nA_at (by omega) (by omega))) (Nat.le_of_ble_eq_true rfl) (by refine ⟨?_, ?_, ?_, ?_⟩ <;> exact Nat.le_of_ble_eq_true rfl) (fun _ _ => trivial) (zX0_hasGate  (by exact nA_at (by omega) (by omega))) ?_
    intro x14 M14 J14 z14 f14 q14
    obtain ⟨e14_1, e14_2, h14⟩ := q14
    replace e14_1 := e14_1.symm; subst e14_1
    replace e14_2 := e14_2.symm; subst e14_2
    refine Z_if_ne (n := 20) (t := 22) dX3_output_17 rfl (by decide) (fun c17 => ?_) (fun c17 => ?_)
    · refine Z_aload_n (n := 23) dX3_output_22 rfl rfl ?_
      refine Z_getA (n := 26) dX3_output_23 rfl ffX3_11 (by first | rfl | exact nS0 (nA_at (by omega) (by omega))) (by first | rfl | exact nS0 (nA_at (by omega) (by omega))) ?_
      refine Z_iload_n (n := 27) dX3_output_26 rfl rfl ?_
      refine Z_aald (n := 28) dX3_output_27 rfl (by first | rfl | exact nS0 (nA_at (by omega) (by omega))) (by decide) (by omega) (by omega) (nA_P (by omega) (by omega)) ?_
      refine Z_rg (nA net) 4 (nTg (nA_at (by omega) (by omega))) (fun g4 g4b => ?_)
      refine Z_iload_n (n := 29) dX3_output_28 rfl rfl ?_
      refine Z_callVi (n := 32) [_] _ dX3_output_29 rfl cwX3_80 rfl rfl (by first | rfl | exact nS0 (nA_at (by omega) (by omega))) (Nat.le_of_ble_eq_true rfl) (by refine ⟨?_, ?_, ?_, ?_⟩ <;> exact Nat.le_of_ble_eq_true rfl) (fun _ h => h) (zX0_addOutput  (by exact nA_at (by omega) (by omega)) (by omega) (by omega) (by exact fun h => h) (by exact fun h => h)) ?_
      intro x29 M29 J29 z29 f29 q29
      obtain ⟨e29_1, h29⟩ := q29
      replace e29_1 := e29_1.symm; subst e29_1
      refine Z_iret dX3_output_32 rfl ?_
      exact ⟨rfl, Or.inr (Or.inr ⟨by omega, by omega, by omega, by omega, h29⟩)⟩
    · refine Z_iconst (n := 21) dX3_output_20 rfl (by decide) ?_
      refine Z_iret dX3_output_21 rfl ?_
      first | exact ⟨rfl, Or.inl ⟨by omega, rfl, rfl⟩⟩ | exact ⟨rfl, Or.inr (Or.inl ⟨by omega, by omega, by omega, rfl, rfl⟩)⟩
set_option maxRecDepth 20000 in
theorem zX3_clear {G : tl_G} {M : zM} {J : zJ} {net : Int}  : ZN G yX3_clear mX3_clear 1 kF [vR 0, vI net] F1 M J (qI (fun x M' J' => J' = J ∧ (((net < 0 ∨ 3 ≤ net) ∧ x = -1 ∧ M' = M) ∨ (0 ≤ net ∧ net < 3 ∧ x = M (nA net) 4 ∧ M' = uz (uz M (nA net) 4 0) (nA net) 5 0)))) := by
  refine ZN_of (L := [_, _]) (by decide) rfl rfl (Nat.le_of_ble_eq_true rfl) rfl (fun hav => ?_)
  refine Z_iload_n (n := 1) dX3_clear_0 rfl rfl ?_
  refine Z_callSi (n := 4) [_] _ dX3_clear_1 rfl cwX3_62 rfl rfl (Nat.le_of_ble_eq_true rfl) (by refine ⟨?_, ?_, ?_, ?_⟩ <;> exact Nat.le_of_ble_eq_true rfl) (fun _ _ => trivial) (zX3_isNet  ) ?_
  intro x1 M1 J1 z1 f1 q1
  obtain ⟨e1_1, e1_2, h1⟩ := q1
  replace e1_1 := e1_1.symm; subst e1_1
  replace e1_2 := e1_2.symm; subst e1_2
  refine Z_if_ne (n := 7) (t := 9) dX3_clear_4 rfl (by decide) (fun c4 => ?_) (fun c4 => ?_)
  · refine Z_aload_n (n := 10) dX3_clear_9 rfl rfl ?_
    refine Z_getA (n := 13) dX3_clear_10 rfl ffX3_11 (by first | rfl | exact nS0 (nA_at (by omega) (by omega))) (by first | rfl | exact nS0 (nA_at (by omega) (by omega))) ?_
    refine Z_iload_n (n := 14) dX3_clear_13 rfl rfl ?_
    refine Z_aald (n := 15) dX3_clear_14 rfl (by first | rfl | exact nS0 (nA_at (by omega) (by omega))) (by decide) (by omega) (by omega) (nA_P (by omega) (by omega)) ?_
    refine Z_callVi (n := 18) [] _ dX3_clear_15 rfl cwX3_84 rfl rfl (by first | rfl | exact nS0 (nA_at (by omega) (by omega))) (Nat.le_of_ble_eq_true rfl) (by refine ⟨?_, ?_, ?_, ?_⟩ <;> exact Nat.le_of_ble_eq_true rfl) (fun _ h => h) (zX0_empty  (by exact nA_at (by omega) (by omega)) (by exact fun h => h)) ?_
    intro x15 M15 J15 z15 f15 q15
    obtain ⟨e15_1, h15, e15_2⟩ := q15
    replace e15_1 := e15_1.symm; subst e15_1
    replace e15_2 := e15_2.symm; subst e15_2
    refine Z_iret dX3_clear_18 rfl ?_
    exact ⟨rfl, Or.inr ⟨by omega, by omega, h15, rfl⟩⟩
  · refine Z_iconst (n := 8) dX3_clear_7 rfl (by decide) ?_
    refine Z_iret dX3_clear_8 rfl ?_
    exact ⟨rfl, Or.inl ⟨by omega, rfl, rfl⟩⟩
set_option maxRecDepth 20000 in
theorem zX3_at {G : tl_G} {M : zM} {J : zJ} {p : Int}  : ZN G yX3_at mX3_at 1 kAll [vR 0, vI p] F1 M J (qI (fun x M' J' => M' = M ∧ J' = J ∧ (((p < 0 ∨ 8 ≤ p) ∧ x = -2) ∨ (0 ≤ p ∧ p < 8 ∧ x = M 3 p)))) := by
  refine ZN_of (L := [_, _]) (by decide) rfl rfl (Nat.le_of_ble_eq_true rfl) rfl (fun hav => ?_)
  refine Z_iload_n (n := 1) dX3_at_0 rfl rfl ?_
  refine Z_callSi (n := 4) [_] _ dX3_at_1 rfl cwX3_70 rfl rfl (Nat.le_of_ble_eq_true rfl) (by refine ⟨?_, ?_, ?_, ?_⟩ <;> exact Nat.le_of_ble_eq_true rfl) (fun _ h => h) (zX3_isVariable  ) ?_
  intro x1 M1 J1 z1 f1 q1
  obtain ⟨e1_1, e1_2, h1⟩ := q1
  replace e1_1 := e1_1.symm; subst e1_1
  replace e1_2 := e1_2.symm; subst e1_2
  refine Z_if_ne (n := 7) (t := 10) dX3_at_4 rfl (by decide) (fun c4 => ?_) (fun c4 => ?_)
  · refine Z_aload_n (n := 11) dX3_at_10 rfl rfl ?_
    refine Z_getO (n := 14) dX3_at_11 rfl ffX3_18 (by first | rfl | exact nS0 (nA_at (by omega) (by omega))) (by first | rfl | exact nS0 (nA_at (by omega) (by omega))) ?_
    refine Z_iload_n (n := 15) dX3_at_14 rfl rfl ?_
    refine Z_callVi (n := 18) [_] _ dX3_at_15 rfl cwX3_114 rfl rfl (by first | rfl | exact nS0 (nA_at (by omega) (by omega))) (Nat.le_of_ble_eq_true rfl) (by refine ⟨?_, ?_, ?_, ?_⟩ <;> exact Nat.le_of_ble_eq_true rfl) (fun _ h => h) (zX1_variableAt  (by first | assumption | omega | decide) (by first | assumption | omega | decide)) ?_
    intro x15 M15 J15 z15 f15 q15
    obtain ⟨e15_1, e15_2, h15⟩ := q15
    replace e15_1 := e15_1.symm; subst e15_1
    replace e15_2 := e15_2.symm; subst e15_2
    refine Z_iret dX3_at_18 rfl ?_
    refine ⟨rfl, rfl, ?_⟩; omega
  · refine Z_bipush (n := 9) dX3_at_7 rfl (by decide) (by decide) ?_
    refine Z_iret dX3_at_9 rfl ?_
    refine ⟨rfl, rfl, ?_⟩; omega
