/-! ===== the class: its face ===== -/
abbrev kF (_ : Nat) : Prop := False
abbrev kPub (a : Nat) : Prop := 15 < a ∧ ¬ a = 20 ∧ ¬ a = 25 ∧ ¬ a = 30
def cI (M : zM) : Prop := pI M ∧ ordOK M ∧ netOK M 16 ∧ netOK M 21 ∧ netOK M 26
theorem cI_net {M : zM} (h : cI M) {b : Nat} (hb : NetAt b) : netOK M b := by
  rcases hb with rfl | rfl | rfl
  · exact h.2.2.1
  · exact h.2.2.2.1
  · exact h.2.2.2.2
theorem cI_mk {M M' : zM} {J J' : zJ} (hc : cI M) (fr : ∀ a, kPub a → M' a = M a ∧ J' a = J a) (hp : pI M') (ho : ordOK M') : cI M' :=
  ⟨hp, ho, netOK_fr hc.2.2.1 (fr 16 (by decide)).1 (fr 17 (by decide)).1 (fr 18 (by decide)).1 (fr 19 (by decide)).1, netOK_fr hc.2.2.2.1 (fr 21 (by decide)).1 (fr 22 (by decide)).1 (fr 23 (by decide)).1 (fr 24 (by decide)).1, netOK_fr hc.2.2.2.2 (fr 26 (by decide)).1 (fr 27 (by decide)).1 (fr 28 (by decide)).1 (fr 29 (by decide)).1⟩
def noOut (M : zM) : Prop := ∀ j : Int, 0 ≤ j → j < 3 → M (nA j) 5 = 0
set_option maxRecDepth 20000 in
theorem zX3_gate {G : tl_G} {M : zM} {J : zJ} {net k u v w : Int}  : ZN G yX3_gate mX3_gate 2 kF [vR 0, vI net, vI k, vI u, vI v, vI w] F1 M J (qI (fun x M' J' => J' = J ∧ (((net < 0 ∨ 3 ≤ net) ∧ x = -1 ∧ M' = M) ∨ (0 ≤ net ∧ net < 3 ∧ (k < 0 ∨ 10 < k) ∧ x = -2 ∧ M' = M) ∨ (0 ≤ net ∧ net < 3 ∧ 0 ≤ k ∧ k ≤ 10 ∧ ¬ ((opF k < 1 ∨ (0 ≤ u ∧ u < M (nA net) 4)) ∧ (opF k < 2 ∨ (0 ≤ v ∧ v < M (nA net) 4)) ∧ (opF k < 3 ∨ (0 ≤ w ∧ w < M (nA net) 4))) ∧ x = -1 ∧ M' = M) ∨ (0 ≤ net ∧ net < 3 ∧ 0 ≤ k ∧ k ≤ 10 ∧ ((opF k < 1 ∨ (0 ≤ u ∧ u < M (nA net) 4)) ∧ (opF k < 2 ∨ (0 ≤ v ∧ v < M (nA net) 4)) ∧ (opF k < 3 ∨ (0 ≤ w ∧ w < M (nA net) 4))) ∧ ((k = 0 ∧ (u < 0 ∨ 8 ≤ u) ∧ x = -2 ∧ M' = M) ∨ ((¬ k = 0 ∨ (0 ≤ u ∧ u < 8)) ∧ ((x = -4 ∧ M' = M ∧ 40 ≤ M (nA net) 4) ∨ (x = M (nA net) 4 ∧ M (nA net) 4 < 40 ∧ M' = uz (uz (uz (uz (uz M (nA net + 1) (M (nA net) 4) k) (nA net + 2) (3 * M (nA net) 4) u) (nA net + 2) (3 * M (nA net) 4 + 1) v) (nA net + 2) (3 * M (nA net) 4 + 2) w) (nA net) 4 (M (nA net) 4 + 1))))))))) := by
  refine ZN_of (L := [_, _, _, _, _, _]) (by decide) rfl rfl (Nat.le_of_ble_eq_true rfl) rfl (fun hav => ?_)
  refine Z_iload_n (n := 1) dX3_gate_0 rfl rfl ?_
  refine Z_callSi (n := 4) [_] _ dX3_gate_1 rfl cwX3_62 rfl rfl (Nat.le_of_ble_eq_true rfl) (by refine ⟨?_, ?_, ?_, ?_⟩ <;> exact Nat.le_of_ble_eq_true rfl) (fun _ _ => trivial) (zX3_isNet  ) ?_
  intro x1 M1 J1 z1 f1 q1
  obtain ⟨e1_1, e1_2, h1⟩ := q1
  replace e1_1 := e1_1.symm; subst e1_1
  replace e1_2 := e1_2.symm; subst e1_2
  refine Z_if_ne (n := 7) (t := 9) dX3_gate_4 rfl (by decide) (fun c4 => ?_) (fun c4 => ?_)
  · refine Z_iload_n (n := 10) dX3_gate_9 rfl rfl ?_
    refine Z_if_lt (n := 13) (t := 19) dX3_gate_10 rfl (by decide) (fun c10 => ?_) (fun c10 => ?_)
    · refine Z_bipush (n := 21) dX3_gate_19 rfl (by decide) (by decide) ?_
      refine Z_iret dX3_gate_21 rfl ?_
      exact ⟨rfl, Or.inr (Or.inl ⟨by omega, by omega, by omega, rfl, rfl⟩)⟩
    · refine Z_iload_n (n := 14) dX3_gate_13 rfl rfl ?_
      refine Z_bipush (n := 16) dX3_gate_14 rfl (by decide) (by decide) ?_
      refine Z_icmp_le (n := 19) (t := 22) dX3_gate_16 rfl (by decide) (fun c16 => ?_) (fun c16 => ?_)
      · refine Z_aload_n (n := 23) dX3_gate_22 rfl rfl ?_
        refine Z_getA (n := 26) dX3_gate_23 rfl ffX3_11 (by first | rfl | exact nS0 (nA_at (by omega) (by omega))) (by first | rfl | exact nS0 (nA_at (by omega) (by omega))) ?_
        refine Z_iload_n (n := 27) dX3_gate_26 rfl rfl ?_
        refine Z_aald (n := 28) dX3_gate_27 rfl (by first | rfl | exact nS0 (nA_at (by omega) (by omega))) (by decide) (by omega) (by omega) (nA_P (by omega) (by omega)) ?_
        refine Z_iload_n (n := 29) dX3_gate_28 rfl rfl ?_
        refine Z_iload_n (n := 30) dX3_gate_29 rfl rfl ?_
        refine Z_iload (n := 32) dX3_gate_30 rfl rfl ?_
        refine Z_iload (n := 34) dX3_gate_32 rfl rfl ?_
        refine Z_callVi (n := 37) [_, _, _, _] _ dX3_gate_34 rfl cwX3_66 rfl rfl (by first | rfl | exact nS0 (nA_at (by omega) (by omega))) (Nat.le_of_ble_eq_true rfl) (by refine ⟨?_, ?_, ?_, ?_⟩ <;> exact Nat.le_of_ble_eq_true rfl) (fun _ _ => trivial) (zX0_hasOperands  (by exact nA_at (by omega) (by omega)) (by first | assumption | omega | decide) (by first | assumption | omega | decide)) ?_
        intro x34 M34 J34 z34 f34 q34
        obtain ⟨e34_1, e34_2, h34⟩ := q34
        replace e34_1 := e34_1.symm; subst e34_1
        replace e34_2 := e34_2.symm; subst e34_2
        refine Z_if_ne (n := 40) (t := 42) dX3_gate_37 rfl (by decide) (fun c37 => ?_) (fun c37 => ?_)
        · refine Z_iload_n (n := 43) dX3_gate_42 rfl rfl ?_
          refine Z_if_ne (n := 46) (t := 56) dX3_gate_43 rfl (by decide) (fun c43 => ?_) (fun c43 => ?_)
          · refine Z_aload_n (n := 57) dX3_gate_56 rfl rfl ?_
            refine Z_getA (n := 60) dX3_gate_57 rfl ffX3_11 (by first | rfl | exact nS0 (nA_at (by omega) (by omega))) (by first | rfl | exact nS0 (nA_at (by omega) (by omega))) ?_
            refine Z_iload_n (n := 61) dX3_gate_60 rfl rfl ?_
            refine Z_aald (n := 62) dX3_gate_61 rfl (by first | rfl | exact nS0 (nA_at (by omega) (by omega))) (by decide) (by omega) (by omega) (nA_P (by omega) (by omega)) ?_
            refine Z_iload_n (n := 63) dX3_gate_62 rfl rfl ?_
            refine Z_iload_n (n := 64) dX3_gate_63 rfl rfl ?_
            refine Z_iload (n := 66) dX3_gate_64 rfl rfl ?_
            refine Z_iload (n := 68) dX3_gate_66 rfl rfl ?_
            refine Z_callVi (n := 71) [_, _, _, _] _ dX3_gate_68 rfl cwX3_73 rfl rfl (by first | rfl | exact nS0 (nA_at (by omega) (by omega))) (Nat.le_of_ble_eq_true rfl) (by refine ⟨?_, ?_, ?_, ?_⟩ <;> exact Nat.le_of_ble_eq_true rfl) (fun _ h => h) (zX0_addGate  (by exact nA_at (by omega) (by omega)) (by first | assumption | omega | decide) (by first | assumption | omega | decide) (by exact fun h => h) (by exact fun h => h) (by exact fun h => h)) ?_
            intro x68 M68 J68 z68 f68 q68
            obtain ⟨e68_1, h68⟩ := q68
            replace e68_1 := e68_1.symm; subst e68_1
            refine Z_iret dX3_gate_71 rfl ?_
            rcases h34 with ⟨-, q⟩ | ⟨q, -⟩
            · exact ⟨rfl, Or.inr (Or.inr (Or.inr ⟨by omega, by omega, by omega, by omega, q, Or.inr ⟨by omega, h68⟩⟩))⟩
            · omega
          · refine Z_iload_n (n := 47) dX3_gate_46 rfl rfl ?_
            refine Z_callSi (n := 50) [_] _ dX3_gate_47 rfl cwX3_70 rfl rfl (Nat.le_of_ble_eq_true rfl) (by refine ⟨?_, ?_, ?_, ?_⟩ <;> exact Nat.le_of_ble_eq_true rfl) (fun _ _ => trivial) (zX3_isVariable  ) ?_
            intro x47 M47 J47 z47 f47 q47
            obtain ⟨e47_1, e47_2, h47⟩ := q47
            replace e47_1 := e47_1.symm; subst e47_1
            replace e47_2 := e47_2.symm; subst e47_2
            refine Z_if_ne (n := 53) (t := 56) dX3_gate_50 rfl (by decide) (fun c50 => ?_) (fun c50 => ?_)
            · refine Z_aload_n (n := 57) dX3_gate_56 rfl rfl ?_
              refine Z_getA (n := 60) dX3_gate_57 rfl ffX3_11 (by first | rfl | exact nS0 (nA_at (by omega) (by omega))) (by first | rfl | exact nS0 (nA_at (by omega) (by omega))) ?_
              refine Z_iload_n (n := 61) dX3_gate_60 rfl rfl ?_
              refine Z_aald (n := 62) dX3_gate_61 rfl (by first | rfl | exact nS0 (nA_at (by omega) (by omega))) (by decide) (by omega) (by omega) (nA_P (by omega) (by omega)) ?_
              refine Z_iload_n (n := 63) dX3_gate_62 rfl rfl ?_
              refine Z_iload_n (n := 64) dX3_gate_63 rfl rfl ?_
              refine Z_iload (n := 66) dX3_gate_64 rfl rfl ?_
              refine Z_iload (n := 68) dX3_gate_66 rfl rfl ?_
              refine Z_callVi (n := 71) [_, _, _, _] _ dX3_gate_68 rfl cwX3_73 rfl rfl (by first | rfl | exact nS0 (nA_at (by omega) (by omega))) (Nat.le_of_ble_eq_true rfl) (by refine ⟨?_, ?_, ?_, ?_⟩ <;> exact Nat.le_of_ble_eq_true rfl) (fun _ h => h) (zX0_addGate  (by exact nA_at (by omega) (by omega)) (by first | assumption | omega | decide) (by first | assumption | omega | decide) (by exact fun h => h) (by exact fun h => h) (by exact fun h => h)) ?_
              intro x68 M68 J68 z68 f68 q68
              obtain ⟨e68_1, h68⟩ := q68
              replace e68_1 := e68_1.symm; subst e68_1
              refine Z_iret dX3_gate_71 rfl ?_
              rcases h34 with ⟨-, q⟩ | ⟨q, -⟩
              · exact ⟨rfl, Or.inr (Or.inr (Or.inr ⟨by omega, by omega, by omega, by omega, q, Or.inr ⟨by omega, h68⟩⟩))⟩
              · omega
            · refine Z_bipush (n := 55) dX3_gate_53 rfl (by decide) (by decide) ?_
              refine Z_iret dX3_gate_55 rfl ?_
              rcases h34 with ⟨-, q⟩ | ⟨q, -⟩
              · exact ⟨rfl, Or.inr (Or.inr (Or.inr ⟨by omega, by omega, by omega, by omega, q, Or.inl ⟨by omega, by omega, rfl, rfl⟩⟩))⟩
              · omega
        · refine Z_iconst (n := 41) dX3_gate_40 rfl (by decide) ?_
          refine Z_iret dX3_gate_41 rfl ?_
          rcases h34 with ⟨q, -⟩ | ⟨-, q⟩
          · omega
          · exact ⟨rfl, Or.inr (Or.inr (Or.inl ⟨by omega, by omega, by omega, by omega, q, rfl, rfl⟩))⟩
      · refine Z_bipush (n := 21) dX3_gate_19 rfl (by decide) (by decide) ?_
        refine Z_iret dX3_gate_21 rfl ?_
        exact ⟨rfl, Or.inr (Or.inl ⟨by omega, by omega, by omega, rfl, rfl⟩)⟩
  · refine Z_iconst (n := 8) dX3_gate_7 rfl (by decide) ?_
    refine Z_iret dX3_gate_8 rfl ?_
    exact ⟨rfl, Or.inl ⟨by omega, rfl, rfl⟩⟩
set_option maxRecDepth 20000 in
theorem zX3_output {G : tl_G} {M : zM} {J : zJ} {net g : Int}  : ZN G yX3_output mX3_output 2 kF [vR 0, vI net, vI g] F1 M J (qI (fun x M' J' => J' = J ∧ (((net < 0 ∨ 3 ≤ net) ∧ x = -1 ∧ M' = M) ∨ (0 ≤ net ∧ net < 3 ∧ (g < 0 ∨ M (nA net) 4 ≤ g) ∧ x = -1 ∧ M' = M) ∨ (0 ≤ net ∧ net < 3 ∧ 0 ≤ g ∧ g < M (nA net) 4 ∧ ((x = -4 ∧ M' = M ∧ 4 ≤ M (nA net) 5) ∨ (x = M (nA net) 5 ∧ M (nA net) 5 < 4 ∧ M' = uz (uz M (nA net + 3) (M (nA net) 5) g) (nA net) 5 (M (nA net) 5 + 1))))))) := by
  refine ZN_of (L := [_, _, _]) (by decide) rfl rfl (Nat.le_of_ble_eq_true rfl) rfl (fun hav => ?_)
  refine Z_iload_n (n := 1) dX3_output_0 rfl rfl ?_
  refine Z_callSi (n := 4) [_] _ dX3_output_1 rfl cwX3_62 rfl rfl (Nat.le_of_ble_eq_true rfl) (by refine ⟨?_, ?_, ?_, ?_⟩ <;> exact Nat.le_of_ble_eq_true rfl) (fun _ _ => trivial) (zX3_isNet  ) ?_
  intro x1 M1 J1 z1 f1 q1
  obtain ⟨e1_1, e1_2, h1⟩ := q1
  replace e1_1 := e1_1.symm; subst e1_1
  replace e1_2 := e1_2.symm; subst e1_2
  refine Z_if_eq (n := 7) (t := 20) dX3_output_4 rfl (by decide) (fun c4 => ?_) (fun c4 => ?_)
  · refine Z_iconst (n := 21) dX3_output_20 rfl (by decide) ?_
    refine Z_iret dX3_output_21 rfl ?_
    first | exact ⟨rfl, Or.inl ⟨by omega, rfl, rfl⟩⟩ | exact ⟨rfl, Or.inr (Or.inl ⟨by omega, by omega, by omega, rfl, rfl⟩)⟩
  · refine Z_aload_n (n := 8) dX3_output_7 rfl rfl ?_
    refine Z_getA (n := 11) dX3_output_8 rfl ffX3_11 (by first | rfl | exact nS0 (nA_at (by omega) (by omega))) (by first | rfl | exact nS0 (nA_at (by omega) (by omega))) ?_
    refine Z_iload_n (n := 12) dX3_output_11 rfl rfl ?_
    refine Z_aald (n := 13) dX3_output_12 rfl (by first | rfl | exact nS0 (nA_at (by omega) (by omega))) (by decide) (by omega) (by omega) (nA_P (by omega) (by omega)) ?_
    refine Z_iload_n (n := 14) dX3_output_13 rfl rfl ?_
    refine Z_callVi (n := 17) [_] _ dX3_output_14 rfl cwX3_77 rfl rfl (by first | rfl | exact nS0 (nA_at (by omega) (by omega))) (Nat.le_of_ble_eq_true rfl) (by refine ⟨?_, ?_, ?_, ?_⟩ <;> exact Nat.le_of_ble_eq_true rfl) (fun _ _ => trivial) (zX0_hasGate  (by exact nA_at (by omega) (by omega))) ?_
    intro x14 M14 J14 z14 f14 q14
    obtain ⟨e14_1, e14_2, h14⟩ := q14
    replace e14_1 := e14_1.symm; subst e14_1
    replace e14_2 := e14_2.symm; subst e14_2
    refine Z_if_ne (n := 20) (t := 22) dX3_output_17 rfl (by decide) (fun c17 => ?_) (fun c17 => ?_)
    · refine Z_aload_n (n := 23) dX3_output_22 rfl rfl ?_
      refine Z_getA (n := 26) dX3_output_23 rfl ffX3_11 (by first | rfl | exact nS0 (nA_at (by omega) (by omega))) (by first | rfl | exact nS0 (nA_at (by omega) (by omega))) ?_
      refine Z_iload_n (n := 27) dX3_output_26 rfl rfl ?_
      refine Z_aald (n := 28) dX3_output_27 rfl (by first | rfl | exact nS0 (nA_at (by omega) (by omega))) (by decide) (by omega) (by omega) (nA_P (by omega) (by omega)) ?_
      refine Z_rg (nA net) 4 (nTg (nA_at (by omega) (by omega))) (fun g4 g4b => ?_)
      refine Z_iload_n (n := 29) dX3_output_28 rfl rfl ?_
      refine Z_callVi (n := 32) [_] _ dX3_output_29 rfl cwX3_80 rfl rfl (by first | rfl | exact nS0 (nA_at (by omega) (by omega))) (Nat.le_of_ble_eq_true rfl) (by refine ⟨?_, ?_, ?_, ?_⟩ <;> exact Nat.le_of_ble_eq_true rfl) (fun _ h => h) (zX0_addOutput  (by exact nA_at (by omega) (by omega)) (by omega) (by omega) (by exact fun h => h) (by exact fun h => h)) ?_
      intro x29 M29 J29 z29 f29 q29
      obtain ⟨e29_1, h29⟩ := q29
      replace e29_1 := e29_1.symm; subst e29_1
      refine Z_iret dX3_output_32 rfl ?_
      exact ⟨rfl, Or.inr (Or.inr ⟨by omega, by omega, by omega, by omega, h29⟩)⟩
    · refine Z_iconst (n := 21) dX3_output_20 rfl (by decide) ?_
      refine Z_iret dX3_output_21 rfl ?_
      first | exact ⟨rfl, Or.inl ⟨by omega, rfl, rfl⟩⟩ | exact ⟨rfl, Or.inr (Or.inl ⟨by omega, by omega, by omega, rfl, rfl⟩)⟩
set_option maxRecDepth 20000 in
theorem zX3_clear {G : tl_G} {M : zM} {J : zJ} {net : Int}  : ZN G yX3_clear mX3_clear 1 kF [vR 0, vI net] F1 M J (qI (fun x M' J' => J' = J ∧ (((net < 0 ∨ 3 ≤ net) ∧ x = -1 ∧ M' = M) ∨ (0 ≤ net ∧ net < 3 ∧ x = M (nA net) 4 ∧ M' = uz (uz M (nA net) 4 0) (nA net) 5 0)))) := by
  refine ZN_of (L := [_, _]) (by decide) rfl rfl (Nat.le_of_ble_eq_true rfl) rfl (fun hav => ?_)
  refine Z_iload_n (n := 1) dX3_clear_0 rfl rfl ?_
  refine Z_callSi (n := 4) [_] _ dX3_clear_1 rfl cwX3_62 rfl rfl (Nat.le_of_ble_eq_true rfl) (by refine ⟨?_, ?_, ?_, ?_⟩ <;> exact Nat.le_of_ble_eq_true rfl) (fun _ _ => trivial) (zX3_isNet  ) ?_
  intro x1 M1 J1 z1 f1 q1
  obtain ⟨e1_1, e1_2, h1⟩ := q1
  replace e1_1 := e1_1.symm; subst e1_1
  replace e1_2 := e1_2.symm; subst e1_2
  refine Z_if_ne (n := 7) (t := 9) dX3_clear_4 rfl (by decide) (fun c4 => ?_) (fun c4 => ?_)
  · refine Z_aload_n (n := 10) dX3_clear_9 rfl rfl ?_
    refine Z_getA (n := 13) dX3_clear_10 rfl ffX3_11 (by first | rfl | exact nS0 (nA_at (by omega) (by omega))) (by first | rfl | exact nS0 (nA_at (by omega) (by omega))) ?_
    refine Z_iload_n (n := 14) dX3_clear_13 rfl rfl ?_
    refine Z_aald (n := 15) dX3_clear_14 rfl (by first | rfl | exact nS0 (nA_at (by omega) (by omega))) (by decide) (by omega) (by omega) (nA_P (by omega) (by omega)) ?_
    refine Z_callVi (n := 18) [] _ dX3_clear_15 rfl cwX3_84 rfl rfl (by first | rfl | exact nS0 (nA_at (by omega) (by omega))) (Nat.le_of_ble_eq_true rfl) (by refine ⟨?_, ?_, ?_, ?_⟩ <;> exact Nat.le_of_ble_eq_true rfl) (fun _ h => h) (zX0_empty  (by exact nA_at (by omega) (by omega)) (by exact fun h => h)) ?_
    intro x15 M15 J15 z15 f15 q15
    obtain ⟨e15_1, h15, e15_2⟩ := q15
    replace e15_1 := e15_1.symm; subst e15_1
    replace e15_2 := e15_2.symm; subst e15_2
    refine Z_iret dX3_clear_18 rfl ?_
    exact ⟨rfl, Or.inr ⟨by omega, by omega, h15, rfl⟩⟩
  · refine Z_iconst (n := 8) dX3_clear_7 rfl (by decide) ?_
    refine Z_iret dX3_clear_8 rfl ?_
    exact ⟨rfl, Or.inl ⟨by omega, rfl, rfl⟩⟩
set_option maxRecDepth 20000 in
theorem zX3_gives {G : tl_G} {M : zM} {J : zJ} {net o a : Int} (hc : cI M) : ZN G yX3_gives mX3_gives 3 kPub [vR 0, vI net, vI o, vI a] F1 M J (qI (fun x M' J' => J' = J ∧ cI M' ∧ (noOut M → x = -1))) := by
  refine ZN_of (L := [_, _, _, _]) (by decide) rfl rfl (Nat.le_of_ble_eq_true rfl) rfl (fun hav => ?_)
  refine Z_iload_n (n := 1) dX3_gives_0 rfl rfl ?_
  refine Z_callSi (n := 4) [_] _ dX3_gives_1 rfl cwX3_62 rfl rfl (Nat.le_of_ble_eq_true rfl) (by refine ⟨?_, ?_, ?_, ?_⟩ <;> exact Nat.le_of_ble_eq_true rfl) (fun _ _ => trivial) (zX3_isNet  ) ?_
  intro x1 M1 J1 z1 f1 q1
  obtain ⟨e1_1, e1_2, h1⟩ := q1
  replace e1_1 := e1_1.symm; subst e1_1
  replace e1_2 := e1_2.symm; subst e1_2
  refine Z_if_eq (n := 7) (t := 20) dX3_gives_4 rfl (by decide) (fun c4 => ?_) (fun c4 => ?_)
  · refine Z_iconst (n := 21) dX3_gives_20 rfl (by decide) ?_
    refine Z_iret dX3_gives_21 rfl ?_
    exact ⟨rfl, hc, fun _ => rfl⟩
  · refine Z_aload_n (n := 8) dX3_gives_7 rfl rfl ?_
    refine Z_getA (n := 11) dX3_gives_8 rfl ffX3_11 (by first | rfl | exact nS0 (nA_at (by omega) (by omega))) (by first | rfl | exact nS0 (nA_at (by omega) (by omega))) ?_
    refine Z_iload_n (n := 12) dX3_gives_11 rfl rfl ?_
    refine Z_aald (n := 13) dX3_gives_12 rfl (by first | rfl | exact nS0 (nA_at (by omega) (by omega))) (by decide) (by omega) (by omega) (nA_P (by omega) (by omega)) ?_
    refine Z_iload_n (n := 14) dX3_gives_13 rfl rfl ?_
    refine Z_callVi (n := 17) [_] _ dX3_gives_14 rfl cwX3_88 rfl rfl (by first | rfl | exact nS0 (nA_at (by omega) (by omega))) (Nat.le_of_ble_eq_true rfl) (by refine ⟨?_, ?_, ?_, ?_⟩ <;> exact Nat.le_of_ble_eq_true rfl) (fun _ _ => trivial) (zX0_hasOutput  (by exact nA_at (by omega) (by omega))) ?_
    intro x14 M14 J14 z14 f14 q14
    obtain ⟨e14_1, e14_2, h14⟩ := q14
    replace e14_1 := e14_1.symm; subst e14_1
    replace e14_2 := e14_2.symm; subst e14_2
    refine Z_if_ne (n := 20) (t := 22) dX3_gives_17 rfl (by decide) (fun c17 => ?_) (fun c17 => ?_)
    · refine Z_iload_n (n := 23) dX3_gives_22 rfl rfl ?_
      refine Z_callSi (n := 26) [_] _ dX3_gives_23 rfl cwX3_91 rfl rfl (Nat.le_of_ble_eq_true rfl) (by refine ⟨?_, ?_, ?_, ?_⟩ <;> exact Nat.le_of_ble_eq_true rfl) (fun _ _ => trivial) (zX3_isAssignment  ) ?_
      intro x23 M23 J23 z23 f23 q23
      obtain ⟨e23_1, e23_2, h23⟩ := q23
      replace e23_1 := e23_1.symm; subst e23_1
      replace e23_2 := e23_2.symm; subst e23_2
      refine Z_if_ne (n := 29) (t := 32) dX3_gives_26 rfl (by decide) (fun c26 => ?_) (fun c26 => ?_)
      · refine Z_aload_n (n := 33) dX3_gives_32 rfl rfl ?_
        refine Z_getA (n := 36) dX3_gives_33 rfl ffX3_11 (by first | rfl | exact nS0 (nA_at (by omega) (by omega))) (by first | rfl | exact nS0 (nA_at (by omega) (by omega))) ?_
        refine Z_iload_n (n := 37) dX3_gives_36 rfl rfl ?_
        refine Z_aald (n := 38) dX3_gives_37 rfl (by first | rfl | exact nS0 (nA_at (by omega) (by omega))) (by decide) (by omega) (by omega) (nA_P (by omega) (by omega)) ?_
        refine Z_iload_n (n := 39) dX3_gives_38 rfl rfl ?_
        refine Z_iload_n (n := 40) dX3_gives_39 rfl rfl ?_
        refine Z_callVi (n := 43) [_, _] _ dX3_gives_40 rfl cwX3_94 rfl rfl (by first | rfl | exact nS0 (nA_at (by omega) (by omega))) (Nat.le_of_ble_eq_true rfl) (by refine ⟨?_, ?_, ?_, ?_⟩ <;> exact Nat.le_of_ble_eq_true rfl) (fun a h => by unfold kPub at h; unfold kOf nA; omega) (zX0_outputValue  (by exact nA_at (by omega) (by omega)) (by exact cI_net hc (nA_at (by omega) (by omega))) (by omega) (by omega)) ?_
        intro x40 M40 J40 z40 f40 q40
        obtain ⟨e40_1, h40⟩ := q40
        replace e40_1 := e40_1.symm; subst e40_1
        refine Z_fr (fun frR => ?_)
        refine Z_iret dX3_gives_43 rfl ?_
        refine ⟨rfl, cI_mk hc frR (pI_fr hc.1 (f40 5 ?_).1 (f40 6 ?_).1 (f40 10 ?_).1 (f40 11 ?_).1) (ordOK_fr hc.2.1 (f40 4 ?_).1), fun q => ?_⟩
        all_goals first | (unfold kOf nA; omega) | (have := q net (by omega) (by omega); omega)
      · refine Z_bipush (n := 31) dX3_gives_29 rfl (by decide) (by decide) ?_
        refine Z_iret dX3_gives_31 rfl ?_
        exact ⟨rfl, hc, fun q => by have := q net (by omega) (by omega); omega⟩
    · refine Z_iconst (n := 21) dX3_gives_20 rfl (by decide) ?_
      refine Z_iret dX3_gives_21 rfl ?_
      exact ⟨rfl, hc, fun _ => rfl⟩
set_option maxRecDepth 20000 in
theorem zX3_order {G : tl_G} {M : zM} {J : zJ} {net : Int} (hc : cI M) : ZN G yX3_order mX3_order 44 kPub [vR 0, vI net] F1 M J (qI (fun x M' J' => J' = J ∧ cI M' ∧ (noH M → noOut M → (((net < 0 ∨ 3 ≤ net) ∧ x = -1) ∨ (0 ≤ net ∧ net < 3 ∧ x = 0))))) := by
  refine ZN_of (L := [_, _]) (by decide) rfl rfl (Nat.le_of_ble_eq_true rfl) rfl (fun hav => ?_)
  refine Z_iload_n (n := 1) dX3_order_0 rfl rfl ?_
  refine Z_callSi (n := 4) [_] _ dX3_order_1 rfl cwX3_62 rfl rfl (Nat.le_of_ble_eq_true rfl) (by refine ⟨?_, ?_, ?_, ?_⟩ <;> exact Nat.le_of_ble_eq_true rfl) (fun _ _ => trivial) (zX3_isNet  ) ?_
  intro x1 M1 J1 z1 f1 q1
  obtain ⟨e1_1, e1_2, h1⟩ := q1
  replace e1_1 := e1_1.symm; subst e1_1
  replace e1_2 := e1_2.symm; subst e1_2
  refine Z_if_ne (n := 7) (t := 9) dX3_order_4 rfl (by decide) (fun c4 => ?_) (fun c4 => ?_)
  · refine Z_aload_n (n := 10) dX3_order_9 rfl rfl ?_
    refine Z_callVi (n := 13) [] _ dX3_order_10 rfl cwX3_98 rfl rfl (by first | rfl | exact nS0 (nA_at (by omega) (by omega))) (Nat.le_of_ble_eq_true rfl) (by refine ⟨?_, ?_, ?_, ?_⟩ <;> exact Nat.le_of_ble_eq_true rfl) (fun _ _ => trivial) (zX3_heldCount  ) ?_
    intro x10 M10 J10 z10 f10 q10
    obtain ⟨e10_1, e10_2, h10⟩ := q10
    replace e10_1 := e10_1.symm; subst e10_1
    replace e10_2 := e10_2.symm; subst e10_2
    refine Z_if_le (n := 16) (t := 19) dX3_order_13 rfl (by decide) (fun c13 => ?_) (fun c13 => ?_)
    · refine Z_aload_n (n := 20) dX3_order_19 rfl rfl ?_
      refine Z_getO (n := 23) dX3_order_20 rfl ffX3_18 (by first | rfl | exact nS0 (nA_at (by omega) (by omega))) (by first | rfl | exact nS0 (nA_at (by omega) (by omega))) ?_
      refine Z_callVv (n := 26) [] _ dX3_order_23 rfl cwX3_101 rfl rfl (by first | rfl | exact nS0 (nA_at (by omega) (by omega))) (Nat.le_of_ble_eq_true rfl) (by refine ⟨?_, ?_, ?_, ?_⟩ <;> exact Nat.le_of_ble_eq_true rfl) (fun _ h => h) (zX1_forget  (by decide) (by decide)) ?_
      intro M23 J23 f23 q23
      obtain ⟨e23_1, e23_2⟩ := q23
      replace e23_1 := e23_1.symm; subst e23_1
      replace e23_2 := e23_2.symm; subst e23_2
      have hm23 : oMet (uz (fillz M 4 8 (-1)) 2 2 0) := by
        unfold oMet
        rw [uz_s, uz_o (by decide), hc_zero (fun k k0 k1 => fillz_a k0 (by omega))]
      have hN23 : netOK (uz (fillz M 4 8 (-1)) 2 2 0) (nA net) := netOK_fr (cI_net hc (nA_at (by omega) (by omega))) (by rw [uz_o (by unfold nA; omega), fillz_o (by unfold nA; omega)]) (by rw [uz_o (by unfold nA; omega), fillz_o (by unfold nA; omega)]) (by rw [uz_o (by unfold nA; omega), fillz_o (by unfold nA; omega)]) (by rw [uz_o (by unfold nA; omega), fillz_o (by unfold nA; omega)])
      refine Z_aload_n (n := 27) dX3_order_26 rfl rfl ?_
      refine Z_getA (n := 30) dX3_order_27 rfl ffX3_11 (by first | rfl | exact nS0 (nA_at (by omega) (by omega))) (by first | rfl | exact nS0 (nA_at (by omega) (by omega))) ?_
      refine Z_iload_n (n := 31) dX3_order_30 rfl rfl ?_
      refine Z_aald (n := 32) dX3_order_31 rfl (by first | rfl | exact nS0 (nA_at (by omega) (by omega))) (by decide) (by omega) (by omega) (nA_P (by omega) (by omega)) ?_
      refine Z_aload_n (n := 33) dX3_order_32 rfl rfl ?_
      refine Z_getO (n := 36) dX3_order_33 rfl ffX3_18 (by first | rfl | exact nS0 (nA_at (by omega) (by omega))) (by first | rfl | exact nS0 (nA_at (by omega) (by omega))) ?_
      refine Z_callVv (n := 39) [_] _ dX3_order_36 rfl cwX3_104 rfl rfl (by first | rfl | exact nS0 (nA_at (by omega) (by omega))) (Nat.le_of_ble_eq_true rfl) (by refine ⟨?_, ?_, ?_, ?_⟩ <;> exact Nat.le_of_ble_eq_true rfl) (fun a h => by unfold kPub at h; unfold kGo nA; omega) (zX0_meetVariables  (by exact nA_at (by omega) (by omega)) (by exact hN23)) ?_
      intro M36 J36 f36 q36
      obtain ⟨e36_1, h36, mz36⟩ := q36
      replace e36_1 := e36_1.symm; subst e36_1
      
      refine Z_aload_n (n := 40) dX3_order_39 rfl rfl ?_
      refine Z_getO (n := 43) dX3_order_40 rfl ffX3_18 (by first | rfl | exact nS0 (nA_at (by omega) (by omega))) (by first | rfl | exact nS0 (nA_at (by omega) (by omega))) ?_
      refine Z_callVi (n := 46) [] _ dX3_order_43 rfl cwX3_108 rfl rfl (by first | rfl | exact nS0 (nA_at (by omega) (by omega))) (Nat.le_of_ble_eq_true rfl) (by refine ⟨?_, ?_, ?_, ?_⟩ <;> exact Nat.le_of_ble_eq_true rfl) (fun a h => by unfold kPub at h; unfold kOrd; omega) (zX1_meetOthers  ) ?_
      intro x43 M43 J43 z43 f43 q43
      obtain ⟨h43, e43_1, o43⟩ := q43
      replace e43_1 := e43_1.symm; subst e43_1
      refine Z_fr (fun frR => ?_)
      refine Z_iret dX3_order_46 rfl ?_
      have hp : pI M43 := pI_fr (pI_fr hc.1 (M' := M36) ?_ ?_ ?_ ?_) (f43 5 (by decide)).1 (f43 6 (by decide)).1 (f43 10 (by decide)).1 (f43 11 (by decide)).1
      · refine ⟨rfl, cI_mk hc frR hp (o43 (h36 hm23)), fun q1 q2 => Or.inr ⟨by omega, by omega, ?_⟩⟩
        rw [h43, mz36 (by rw [uz_oo (by unfold nA; omega), fillz_o (by unfold nA; omega)]; exact q2 net (by omega) (by omega)), uz_s]
      all_goals (first | rw [(f36 5 (by unfold kGo nA; omega)).1] | rw [(f36 6 (by unfold kGo nA; omega)).1] | rw [(f36 10 (by unfold kGo nA; omega)).1] | rw [(f36 11 (by unfold kGo nA; omega)).1]) <;> rw [uz_o (by decide), fillz_o (by decide)]
    · refine Z_bipush (n := 18) dX3_order_16 rfl (by decide) (by decide) ?_
      refine Z_iret dX3_order_18 rfl ?_
      refine ⟨rfl, hc, fun q _ => ?_⟩
      have := hc_zero (n := 12) (f := M 12) (fun k k0 k1 => q k k0 (by omega))
      omega
  · refine Z_iconst (n := 8) dX3_order_7 rfl (by decide) ?_
    refine Z_iret dX3_order_8 rfl ?_
    exact ⟨rfl, hc, fun _ _ => Or.inl ⟨by omega, rfl⟩⟩
set_option maxRecDepth 20000 in
theorem zX3_move {G : tl_G} {M : zM} {J : zJ} {v p : Int} (hc : cI M) : ZN G yX3_move mX3_move 2 kPub [vR 0, vI v, vI p] F1 M J (qI (fun x M' J' => J' = J ∧ cI M' ∧ (noH M → (((v < 0 ∨ 8 ≤ v ∨ p < 0 ∨ 8 ≤ p) ∧ x = -2) ∨ (0 ≤ v ∧ v < 8 ∧ 0 ≤ p ∧ p < 8 ∧ x = M 4 v))))) := by
  refine ZN_of (L := [_, _, _]) (by decide) rfl rfl (Nat.le_of_ble_eq_true rfl) rfl (fun hav => ?_)
  refine Z_iload_n (n := 1) dX3_move_0 rfl rfl ?_
  refine Z_callSi (n := 4) [_] _ dX3_move_1 rfl cwX3_70 rfl rfl (Nat.le_of_ble_eq_true rfl) (by refine ⟨?_, ?_, ?_, ?_⟩ <;> exact Nat.le_of_ble_eq_true rfl) (fun _ _ => trivial) (zX3_isVariable  ) ?_
  intro x1 M1 J1 z1 f1 q1
  obtain ⟨e1_1, e1_2, h1⟩ := q1
  replace e1_1 := e1_1.symm; subst e1_1
  replace e1_2 := e1_2.symm; subst e1_2
  refine Z_if_eq (n := 7) (t := 14) dX3_move_4 rfl (by decide) (fun c4 => ?_) (fun c4 => ?_)
  · refine Z_bipush (n := 16) dX3_move_14 rfl (by decide) (by decide) ?_
    refine Z_iret dX3_move_16 rfl ?_
    exact ⟨rfl, hc, fun _ => Or.inl ⟨by omega, rfl⟩⟩
  · refine Z_iload_n (n := 8) dX3_move_7 rfl rfl ?_
    refine Z_callSi (n := 11) [_] _ dX3_move_8 rfl cwX3_70 rfl rfl (Nat.le_of_ble_eq_true rfl) (by refine ⟨?_, ?_, ?_, ?_⟩ <;> exact Nat.le_of_ble_eq_true rfl) (fun _ _ => trivial) (zX3_isVariable  ) ?_
    intro x8 M8 J8 z8 f8 q8
    obtain ⟨e8_1, e8_2, h8⟩ := q8
    replace e8_1 := e8_1.symm; subst e8_1
    replace e8_2 := e8_2.symm; subst e8_2
    refine Z_if_ne (n := 14) (t := 17) dX3_move_11 rfl (by decide) (fun c11 => ?_) (fun c11 => ?_)
    · refine Z_aload_n (n := 18) dX3_move_17 rfl rfl ?_
      refine Z_callVi (n := 21) [] _ dX3_move_18 rfl cwX3_98 rfl rfl (by first | rfl | exact nS0 (nA_at (by omega) (by omega))) (Nat.le_of_ble_eq_true rfl) (by refine ⟨?_, ?_, ?_, ?_⟩ <;> exact Nat.le_of_ble_eq_true rfl) (fun _ _ => trivial) (zX3_heldCount  ) ?_
      intro x18 M18 J18 z18 f18 q18
      obtain ⟨e18_1, e18_2, h18⟩ := q18
      replace e18_1 := e18_1.symm; subst e18_1
      replace e18_2 := e18_2.symm; subst e18_2
      refine Z_if_le (n := 24) (t := 27) dX3_move_21 rfl (by decide) (fun c21 => ?_) (fun c21 => ?_)
      · refine Z_aload_n (n := 28) dX3_move_27 rfl rfl ?_
        refine Z_getO (n := 31) dX3_move_28 rfl ffX3_18 (by first | rfl | exact nS0 (nA_at (by omega) (by omega))) (by first | rfl | exact nS0 (nA_at (by omega) (by omega))) ?_
        refine Z_iload_n (n := 32) dX3_move_31 rfl rfl ?_
        refine Z_iload_n (n := 33) dX3_move_32 rfl rfl ?_
        refine Z_callVi (n := 36) [_, _] _ dX3_move_33 rfl cwX3_111 rfl rfl (by first | rfl | exact nS0 (nA_at (by omega) (by omega))) (Nat.le_of_ble_eq_true rfl) (by refine ⟨?_, ?_, ?_, ?_⟩ <;> exact Nat.le_of_ble_eq_true rfl) (fun a h => by unfold kPub at h; unfold kOrd; omega) (zX1_moveTo  (by omega) (by omega) (by omega) (by omega) (by exact hc.2.1 v (by omega) (by omega))) ?_
        intro x33 M33 J33 z33 f33 q33
        obtain ⟨h33, e33_1, o33⟩ := q33
        replace e33_1 := e33_1.symm; subst e33_1
        refine Z_fr (fun frR => ?_)
        refine Z_iret dX3_move_36 rfl ?_
        exact ⟨rfl, cI_mk hc frR (pI_fr hc.1 (f33 5 (by decide)).1 (f33 6 (by decide)).1 (f33 10 (by decide)).1 (f33 11 (by decide)).1) (o33 hc.2.1), fun _ => Or.inr ⟨by omega, by omega, by omega, by omega, h33⟩⟩
      · refine Z_bipush (n := 26) dX3_move_24 rfl (by decide) (by decide) ?_
        refine Z_iret dX3_move_26 rfl ?_
        refine ⟨rfl, hc, fun q => ?_⟩
        have := hc_zero (n := 12) (f := M 12) (fun k k0 k1 => q k k0 (by omega))
        omega
    · refine Z_bipush (n := 16) dX3_move_14 rfl (by decide) (by decide) ?_
      refine Z_iret dX3_move_16 rfl ?_
      exact ⟨rfl, hc, fun _ => Or.inl ⟨by omega, rfl⟩⟩
set_option maxRecDepth 20000 in
theorem zX3_at {G : tl_G} {M : zM} {J : zJ} {p : Int}  : ZN G yX3_at mX3_at 1 kAll [vR 0, vI p] F1 M J (qI (fun x M' J' => M' = M ∧ J' = J ∧ (((p < 0 ∨ 8 ≤ p) ∧ x = -2) ∨ (0 ≤ p ∧ p < 8 ∧ x = M 3 p)))) := by
  refine ZN_of (L := [_, _]) (by decide) rfl rfl (Nat.le_of_ble_eq_true rfl) rfl (fun hav => ?_)
  refine Z_iload_n (n := 1) dX3_at_0 rfl rfl ?_
  refine Z_callSi (n := 4) [_] _ dX3_at_1 rfl cwX3_70 rfl rfl (Nat.le_of_ble_eq_true rfl) (by refine ⟨?_, ?_, ?_, ?_⟩ <;> exact Nat.le_of_ble_eq_true rfl) (fun _ h => h) (zX3_isVariable  ) ?_
  intro x1 M1 J1 z1 f1 q1
  obtain ⟨e1_1, e1_2, h1⟩ := q1
  replace e1_1 := e1_1.symm; subst e1_1
  replace e1_2 := e1_2.symm; subst e1_2
  refine Z_if_ne (n := 7) (t := 10) dX3_at_4 rfl (by decide) (fun c4 => ?_) (fun c4 => ?_)
  · refine Z_aload_n (n := 11) dX3_at_10 rfl rfl ?_
    refine Z_getO (n := 14) dX3_at_11 rfl ffX3_18 (by first | rfl | exact nS0 (nA_at (by omega) (by omega))) (by first | rfl | exact nS0 (nA_at (by omega) (by omega))) ?_
    refine Z_iload_n (n := 15) dX3_at_14 rfl rfl ?_
    refine Z_callVi (n := 18) [_] _ dX3_at_15 rfl cwX3_114 rfl rfl (by first | rfl | exact nS0 (nA_at (by omega) (by omega))) (Nat.le_of_ble_eq_true rfl) (by refine ⟨?_, ?_, ?_, ?_⟩ <;> exact Nat.le_of_ble_eq_true rfl) (fun _ h => h) (zX1_variableAt  (by first | assumption | omega | decide) (by first | assumption | omega | decide)) ?_
    intro x15 M15 J15 z15 f15 q15
    obtain ⟨e15_1, e15_2, h15⟩ := q15
    replace e15_1 := e15_1.symm; subst e15_1
    replace e15_2 := e15_2.symm; subst e15_2
    refine Z_iret dX3_at_18 rfl ?_
    refine ⟨rfl, rfl, ?_⟩; omega
  · refine Z_bipush (n := 9) dX3_at_7 rfl (by decide) (by decide) ?_
    refine Z_iret dX3_at_9 rfl ?_
    refine ⟨rfl, rfl, ?_⟩; omega
set_option maxRecDepth 20000 in
theorem zX3_room {G : tl_G} {M : zM} {J : zJ} {n : Int} (hc : cI M) : ZN G yX3_room mX3_room 12 kPub [vR 0, vI n] F1 M J (qI (fun x M' J' => J' = J ∧ cI M' ∧ (frsh M → (((n < 0 ∨ 250 < n) ∧ x = -2) ∨ (0 ≤ n ∧ n ≤ 250 ∧ x = M 5 8))))) := by
  refine ZN_of (L := [_, _]) (by decide) rfl rfl (Nat.le_of_ble_eq_true rfl) rfl (fun hav => ?_)
  refine Z_iload_n (n := 1) dX3_room_0 rfl rfl ?_
  refine Z_if_lt (n := 4) (t := 11) dX3_room_1 rfl (by decide) (fun c1 => ?_) (fun c1 => ?_)
  · refine Z_bipush (n := 13) dX3_room_11 rfl (by decide) (by decide) ?_
    refine Z_iret dX3_room_13 rfl ?_
    exact ⟨rfl, hc, fun _ => Or.inl ⟨by omega, rfl⟩⟩
  · refine Z_iload_n (n := 5) dX3_room_4 rfl rfl ?_
    refine Z_sipush (n := 8) dX3_room_5 rfl (by decide) (by decide) ?_
    refine Z_icmp_le (n := 11) (t := 14) dX3_room_8 rfl (by decide) (fun c8 => ?_) (fun c8 => ?_)
    · refine Z_aload_n (n := 15) dX3_room_14 rfl rfl ?_
      refine Z_callVi (n := 18) [] _ dX3_room_15 rfl cwX3_117 rfl rfl (by first | rfl | exact nS0 (nA_at (by omega) (by omega))) (Nat.le_of_ble_eq_true rfl) (by refine ⟨?_, ?_, ?_, ?_⟩ <;> exact Nat.le_of_ble_eq_true rfl) (fun a h => by unfold kPub at h; unfold kColl; omega) (zX3_inUse  (by exact hc.1)) ?_
      intro x15 M15 J15 z15 f15 q15
      obtain ⟨e15_1, pi15, b15, h15, fz15⟩ := q15
      replace e15_1 := e15_1.symm; subst e15_1
      refine Z_iload_n (n := 19) dX3_room_18 rfl rfl ?_
      refine Z_icmp_le (n := 22) (t := 25) dX3_room_19 rfl (by decide) (fun c19 => ?_) (fun c19 => ?_)
      · refine Z_aload_n (n := 26) dX3_room_25 rfl rfl ?_
        refine Z_getO (n := 29) dX3_room_26 rfl ffX3_25 (by first | rfl | exact nS0 (nA_at (by omega) (by omega))) (by first | rfl | exact nS0 (nA_at (by omega) (by omega))) ?_
        refine Z_iload_n (n := 30) dX3_room_29 rfl rfl ?_
        refine Z_callVi (n := 33) [_] _ dX3_room_30 rfl cwX3_120 rfl rfl (by first | rfl | exact nS0 (nA_at (by omega) (by omega))) (Nat.le_of_ble_eq_true rfl) (by refine ⟨?_, ?_, ?_, ?_⟩ <;> exact Nat.le_of_ble_eq_true rfl) (fun _ h => h) (zX2_changeLimit  (by omega) (by omega) (by decide)) ?_
        intro x30 M30 J30 z30 f30 q30
        obtain ⟨e30_1, h30, e30_2⟩ := q30
        replace e30_1 := e30_1.symm; subst e30_1
        replace e30_2 := e30_2.symm; subst e30_2
        refine Z_fr (fun frR => ?_)
        refine Z_iret dX3_room_33 rfl ?_
        refine ⟨rfl, cI_mk hc frR ?_ (ordOK_fr hc.2.1 (by rw [uz_o (by decide)]; exact (f15 4 (by decide)).1)), fun _ => Or.inr ⟨by omega, by omega, h30.trans b15⟩⟩
        obtain ⟨q1, q2, q3, q4, q5⟩ := pi15
        exact ⟨by rw [uz_oo (by decide)]; exact q1, by rw [uz_oo (by decide)]; exact q2, by rw [uz_n (by decide)]; exact q3, fun k k0 k1 => by rw [uz_oo (by decide)]; exact q4 k k0 k1, fun r r0 r1 => by rw [uz_oo (by decide)]; exact q5 r r0 r1⟩
      · refine Z_bipush (n := 24) dX3_room_22 rfl (by decide) (by decide) ?_
        refine Z_fr (fun frR => ?_)
        refine Z_iret dX3_room_24 rfl ?_
        exact ⟨rfl, cI_mk hc frR pi15 (ordOK_fr hc.2.1 (f15 4 (by decide)).1), fun q => by have := fz15 q; omega⟩
    · refine Z_bipush (n := 13) dX3_room_11 rfl (by decide) (by decide) ?_
      refine Z_iret dX3_room_13 rfl ?_
      exact ⟨rfl, hc, fun _ => Or.inl ⟨by omega, rfl⟩⟩
set_option maxRecDepth 20000 in
theorem zX3_build {G : tl_G} {M : zM} {J : zJ} {h net o : Int} (hc : cI M) : ZN G yX3_build mX3_build 14 kPub [vR 0, vI h, vI net, vI o] F1 M J (qI (fun x M' J' => J' = J ∧ cI M' ∧ (noOut M → x = -1))) := by
  refine ZN_of (L := [_, _, _, _]) (by decide) rfl rfl (Nat.le_of_ble_eq_true rfl) rfl (fun hav => ?_)
  refine Z_iload_n (n := 1) dX3_build_0 rfl rfl ?_
  refine Z_callSi (n := 4) [_] _ dX3_build_1 rfl cwX3_123 rfl rfl (Nat.le_of_ble_eq_true rfl) (by refine ⟨?_, ?_, ?_, ?_⟩ <;> exact Nat.le_of_ble_eq_true rfl) (fun _ _ => trivial) (zX3_isHandle  ) ?_
  intro x1 M1 J1 z1 f1 q1
  obtain ⟨e1_1, e1_2, h1⟩ := q1
  replace e1_1 := e1_1.symm; subst e1_1
  replace e1_2 := e1_2.symm; subst e1_2
  refine Z_if_eq (n := 7) (t := 27) dX3_build_4 rfl (by decide) (fun c4 => ?_) (fun c4 => ?_)
  · refine Z_iconst (n := 28) dX3_build_27 rfl (by decide) ?_
    refine Z_iret dX3_build_28 rfl ?_
    exact ⟨rfl, hc, fun _ => rfl⟩
  · refine Z_iload_n (n := 8) dX3_build_7 rfl rfl ?_
    refine Z_callSi (n := 11) [_] _ dX3_build_8 rfl cwX3_62 rfl rfl (Nat.le_of_ble_eq_true rfl) (by refine ⟨?_, ?_, ?_, ?_⟩ <;> exact Nat.le_of_ble_eq_true rfl) (fun _ _ => trivial) (zX3_isNet  ) ?_
    intro x8 M8 J8 z8 f8 q8
    obtain ⟨e8_1, e8_2, h8⟩ := q8
    replace e8_1 := e8_1.symm; subst e8_1
    replace e8_2 := e8_2.symm; subst e8_2
    refine Z_if_eq (n := 14) (t := 27) dX3_build_11 rfl (by decide) (fun c11 => ?_) (fun c11 => ?_)
    · refine Z_iconst (n := 28) dX3_build_27 rfl (by decide) ?_
      refine Z_iret dX3_build_28 rfl ?_
      exact ⟨rfl, hc, fun _ => rfl⟩
    · refine Z_aload_n (n := 15) dX3_build_14 rfl rfl ?_
      refine Z_getA (n := 18) dX3_build_15 rfl ffX3_11 (by first | rfl | exact nS0 (nA_at (by omega) (by omega))) (by first | rfl | exact nS0 (nA_at (by omega) (by omega))) ?_
      refine Z_iload_n (n := 19) dX3_build_18 rfl rfl ?_
      refine Z_aald (n := 20) dX3_build_19 rfl (by first | rfl | exact nS0 (nA_at (by omega) (by omega))) (by decide) (by omega) (by omega) (nA_P (by omega) (by omega)) ?_
      refine Z_iload_n (n := 21) dX3_build_20 rfl rfl ?_
      refine Z_callVi (n := 24) [_] _ dX3_build_21 rfl cwX3_88 rfl rfl (by first | rfl | exact nS0 (nA_at (by omega) (by omega))) (Nat.le_of_ble_eq_true rfl) (by refine ⟨?_, ?_, ?_, ?_⟩ <;> exact Nat.le_of_ble_eq_true rfl) (fun _ _ => trivial) (zX0_hasOutput  (by exact nA_at (by omega) (by omega))) ?_
      intro x21 M21 J21 z21 f21 q21
      obtain ⟨e21_1, e21_2, h21⟩ := q21
      replace e21_1 := e21_1.symm; subst e21_1
      replace e21_2 := e21_2.symm; subst e21_2
      refine Z_if_ne (n := 27) (t := 29) dX3_build_24 rfl (by decide) (fun c24 => ?_) (fun c24 => ?_)
      · refine Z_aload_n (n := 30) dX3_build_29 rfl rfl ?_
        refine Z_callVv (n := 33) [] _ dX3_build_30 rfl cwX3_126 rfl rfl (by first | rfl | exact nS0 (nA_at (by omega) (by omega))) (Nat.le_of_ble_eq_true rfl) (by refine ⟨?_, ?_, ?_, ?_⟩ <;> exact Nat.le_of_ble_eq_true rfl) (fun _ h => h) (zX3_beginSteps  (by exact fun h => by unfold kPub at h; omega)) ?_
        intro M30 J30 f30 q30
        obtain ⟨e30_1, e30_2⟩ := q30
        replace e30_1 := e30_1.symm; subst e30_1
        replace e30_2 := e30_2.symm; subst e30_2
        refine Z_aload_n (n := 34) dX3_build_33 rfl rfl ?_
        refine Z_iload_n (n := 35) dX3_build_34 rfl rfl ?_
        refine Z_aload_n (n := 36) dX3_build_35 rfl rfl ?_
        refine Z_aload_n (n := 37) dX3_build_36 rfl rfl ?_
        refine Z_getA (n := 40) dX3_build_37 rfl ffX3_11 (by first | rfl | exact nS0 (nA_at (by omega) (by omega))) (by first | rfl | exact nS0 (nA_at (by omega) (by omega))) ?_
        refine Z_iload_n (n := 41) dX3_build_40 rfl rfl ?_
        refine Z_aald (n := 42) dX3_build_41 rfl (by first | rfl | exact nS0 (nA_at (by omega) (by omega))) (by decide) (by omega) (by omega) (nA_P (by omega) (by omega)) ?_
        refine Z_iload_n (n := 43) dX3_build_42 rfl rfl ?_
        refine Z_callVi (n := 46) [_, _] _ dX3_build_43 rfl cwX3_129 rfl rfl (by first | rfl | exact nS0 (nA_at (by omega) (by omega))) (Nat.le_of_ble_eq_true rfl) (by refine ⟨?_, ?_, ?_, ?_⟩ <;> exact Nat.le_of_ble_eq_true rfl) (fun a h => by unfold kPub at h; unfold kStep; omega) (zX3_building  (by exact nA_at (by omega) (by omega)) (by exact netOK_fr (cI_net hc (nA_at (by omega) (by omega))) (uz_o (by unfold nA; omega)) (uz_o (by unfold nA; omega)) (uz_o (by unfold nA; omega)) (uz_o (by unfold nA; omega))) (by omega) (by rw [uz_oo (by unfold nA; omega)]; omega) (by exact (show pI (uz M 0 8 0) from pI_fr hc.1 (uz_o (by decide)) (uz_o (by decide)) (uz_o (by decide)) (uz_o (by decide)))) (by exact (show ordOK (uz M 0 8 0) from ordOK_fr hc.2.1 (uz_o (by decide))))) ?_
        intro x43 M43 J43 z43 f43 q43
        obtain ⟨e43_1, l43, u43, pi43⟩ := q43
        replace e43_1 := e43_1.symm; subst e43_1
        refine Z_callVi (n := 49) [_, _] _ dX3_build_46 rfl cwX3_133 rfl rfl (by first | rfl | exact nS0 (nA_at (by omega) (by omega))) (Nat.le_of_ble_eq_true rfl) (by refine ⟨?_, ?_, ?_, ?_⟩ <;> exact Nat.le_of_ble_eq_true rfl) (fun a h => by unfold kPub at h; unfold kGive; omega) (zX3_give  (by first | assumption | omega | decide) (by first | assumption | omega | decide) (by first | assumption | omega | decide) (by first | assumption | omega | decide)) ?_
        intro x46 M46 J46 z46 f46 q46
        obtain ⟨e46_1, h46⟩ := q46
        replace e46_1 := e46_1.symm; subst e46_1
        refine Z_fr (fun frR => ?_)
        refine Z_iret dX3_build_49 rfl ?_
        exact ⟨rfl, cI_mk hc frR (pI_fr pi43 (f46 5 (by decide)).1 (f46 6 (by decide)).1 (f46 10 (by decide)).1 (f46 11 (by decide)).1) (ordOK_fr (show ordOK (uz M 0 8 0) from ordOK_fr hc.2.1 (uz_o (by decide))) (((f46 4 (by decide)).1).trans (f43 4 (by decide)).1)), fun q => by have := q net (by omega) (by omega); omega⟩
      · refine Z_iconst (n := 28) dX3_build_27 rfl (by decide) ?_
        refine Z_iret dX3_build_28 rfl ?_
        exact ⟨rfl, hc, fun _ => rfl⟩
set_option maxRecDepth 20000 in
theorem zX3_variable {G : tl_G} {M : zM} {J : zJ} {h v : Int} (hc : cI M) : ZN G yX3_variable mX3_variable 12 kPub [vR 0, vI h, vI v] F1 M J (qI (fun x M' J' => J' = J ∧ cI M' ∧ ((h < 0 ∨ 12 ≤ h) → x = -1) ∧ (0 ≤ h → h < 12 → (v < 0 ∨ 8 ≤ v) → x = -2))) := by
  refine ZN_of (L := [_, _, _]) (by decide) rfl rfl (Nat.le_of_ble_eq_true rfl) rfl (fun hav => ?_)
  refine Z_iload_n (n := 1) dX3_variable_0 rfl rfl ?_
  refine Z_callSi (n := 4) [_] _ dX3_variable_1 rfl cwX3_123 rfl rfl (Nat.le_of_ble_eq_true rfl) (by refine ⟨?_, ?_, ?_, ?_⟩ <;> exact Nat.le_of_ble_eq_true rfl) (fun _ _ => trivial) (zX3_isHandle  ) ?_
  intro x1 M1 J1 z1 f1 q1
  obtain ⟨e1_1, e1_2, h1⟩ := q1
  replace e1_1 := e1_1.symm; subst e1_1
  replace e1_2 := e1_2.symm; subst e1_2
  refine Z_if_ne (n := 7) (t := 9) dX3_variable_4 rfl (by decide) (fun c4 => ?_) (fun c4 => ?_)
  · refine Z_iload_n (n := 10) dX3_variable_9 rfl rfl ?_
    refine Z_callSi (n := 13) [_] _ dX3_variable_10 rfl cwX3_70 rfl rfl (Nat.le_of_ble_eq_true rfl) (by refine ⟨?_, ?_, ?_, ?_⟩ <;> exact Nat.le_of_ble_eq_true rfl) (fun _ _ => trivial) (zX3_isVariable  ) ?_
    intro x10 M10 J10 z10 f10 q10
    obtain ⟨e10_1, e10_2, h10⟩ := q10
    replace e10_1 := e10_1.symm; subst e10_1
    replace e10_2 := e10_2.symm; subst e10_2
    refine Z_if_ne (n := 16) (t := 19) dX3_variable_13 rfl (by decide) (fun c13 => ?_) (fun c13 => ?_)
    · refine Z_aload_n (n := 20) dX3_variable_19 rfl rfl ?_
      refine Z_callVv (n := 23) [] _ dX3_variable_20 rfl cwX3_126 rfl rfl (by first | rfl | exact nS0 (nA_at (by omega) (by omega))) (Nat.le_of_ble_eq_true rfl) (by refine ⟨?_, ?_, ?_, ?_⟩ <;> exact Nat.le_of_ble_eq_true rfl) (fun _ h => h) (zX3_beginSteps  (by exact fun h => by unfold kPub at h; omega)) ?_
      intro M20 J20 f20 q20
      obtain ⟨e20_1, e20_2⟩ := q20
      replace e20_1 := e20_1.symm; subst e20_1
      replace e20_2 := e20_2.symm; subst e20_2
      refine Z_aload_n (n := 24) dX3_variable_23 rfl rfl ?_
      refine Z_iload_n (n := 25) dX3_variable_24 rfl rfl ?_
      refine Z_aload_n (n := 26) dX3_variable_25 rfl rfl ?_
      refine Z_iload_n (n := 27) dX3_variable_26 rfl rfl ?_
      refine Z_callVi (n := 30) [_] _ dX3_variable_27 rfl cwX3_136 rfl rfl (by first | rfl | exact nS0 (nA_at (by omega) (by omega))) (Nat.le_of_ble_eq_true rfl) (by refine ⟨?_, ?_, ?_, ?_⟩ <;> exact Nat.le_of_ble_eq_true rfl) (fun a h => by unfold kPub at h; unfold kStep; omega) (zX3_variableStep  (by omega) (by omega) (by exact (show pI (uz M 0 8 0) from pI_fr hc.1 (uz_o (by decide)) (uz_o (by decide)) (uz_o (by decide)) (uz_o (by decide)))) (by exact (show ordOK (uz M 0 8 0) from ordOK_fr hc.2.1 (uz_o (by decide))))) ?_
      intro x27 M27 J27 z27 f27 q27
      obtain ⟨e27_1, l27, u27, pi27, -⟩ := q27
      replace e27_1 := e27_1.symm; subst e27_1
      refine Z_callVi (n := 33) [_, _] _ dX3_variable_30 rfl cwX3_133 rfl rfl (by first | rfl | exact nS0 (nA_at (by omega) (by omega))) (Nat.le_of_ble_eq_true rfl) (by refine ⟨?_, ?_, ?_, ?_⟩ <;> exact Nat.le_of_ble_eq_true rfl) (fun a h => by unfold kPub at h; unfold kGive; omega) (zX3_give  (by first | assumption | omega | decide) (by first | assumption | omega | decide) (by first | assumption | omega | decide) (by first | assumption | omega | decide)) ?_
      intro x30 M30 J30 z30 f30 q30
      obtain ⟨e30_1, h30⟩ := q30
      replace e30_1 := e30_1.symm; subst e30_1
      refine Z_fr (fun frR => ?_)
      refine Z_iret dX3_variable_33 rfl ?_
      exact ⟨rfl, cI_mk hc frR (pI_fr pi27 (f30 5 (by decide)).1 (f30 6 (by decide)).1 (f30 10 (by decide)).1 (f30 11 (by decide)).1) (ordOK_fr (show ordOK (uz M 0 8 0) from ordOK_fr hc.2.1 (uz_o (by decide))) (((f30 4 (by decide)).1).trans (f27 4 (by decide)).1)), fun q => by omega, fun _ _ _ => by omega⟩
    · refine Z_bipush (n := 18) dX3_variable_16 rfl (by decide) (by decide) ?_
      refine Z_iret dX3_variable_18 rfl ?_
      exact ⟨rfl, hc, fun _ => by omega, fun _ _ _ => rfl⟩
  · refine Z_iconst (n := 8) dX3_variable_7 rfl (by decide) ?_
    refine Z_iret dX3_variable_8 rfl ?_
    exact ⟨rfl, hc, fun _ => rfl, fun _ _ _ => by omega⟩
set_option maxRecDepth 20000 in
theorem zX3_variable1 {G : tl_G} {M : zM} {J : zJ} {h v : Int} (hc : cI M) (hf : frsh M) (hm : M 5 8 = 250) (h0 : 0 ≤ h) (h1 : h < 12) (v0 : 0 ≤ v) (v1 : v < 8) : ZN G yX3_variable mX3_variable 12 kF [vR 0, vI h, vI v] F1 M J (qI (fun x M' J' => x = 1)) := by
  refine ZN_of (L := [_, _, _]) (by decide) rfl rfl (Nat.le_of_ble_eq_true rfl) rfl (fun hav => ?_)
  refine Z_iload_n (n := 1) dX3_variable_0 rfl rfl ?_
  refine Z_callSi (n := 4) [_] _ dX3_variable_1 rfl cwX3_123 rfl rfl (Nat.le_of_ble_eq_true rfl) (by refine ⟨?_, ?_, ?_, ?_⟩ <;> exact Nat.le_of_ble_eq_true rfl) (fun _ _ => trivial) (zX3_isHandle  ) ?_
  intro x1 M1 J1 z1 f1 q1
  obtain ⟨e1_1, e1_2, h1⟩ := q1
  replace e1_1 := e1_1.symm; subst e1_1
  replace e1_2 := e1_2.symm; subst e1_2
  refine Z_if_ne (n := 7) (t := 9) dX3_variable_4 rfl (by decide) (fun c4 => ?_) (fun c4 => ?_)
  · refine Z_iload_n (n := 10) dX3_variable_9 rfl rfl ?_
    refine Z_callSi (n := 13) [_] _ dX3_variable_10 rfl cwX3_70 rfl rfl (Nat.le_of_ble_eq_true rfl) (by refine ⟨?_, ?_, ?_, ?_⟩ <;> exact Nat.le_of_ble_eq_true rfl) (fun _ _ => trivial) (zX3_isVariable  ) ?_
    intro x10 M10 J10 z10 f10 q10
    obtain ⟨e10_1, e10_2, h10⟩ := q10
    replace e10_1 := e10_1.symm; subst e10_1
    replace e10_2 := e10_2.symm; subst e10_2
    refine Z_if_ne (n := 16) (t := 19) dX3_variable_13 rfl (by decide) (fun c13 => ?_) (fun c13 => ?_)
    · refine Z_aload_n (n := 20) dX3_variable_19 rfl rfl ?_
      refine Z_callVv (n := 23) [] _ dX3_variable_20 rfl cwX3_126 rfl rfl (by first | rfl | exact nS0 (nA_at (by omega) (by omega))) (Nat.le_of_ble_eq_true rfl) (by refine ⟨?_, ?_, ?_, ?_⟩ <;> exact Nat.le_of_ble_eq_true rfl) (fun _ h => h) (zX3_beginSteps  (by exact fun h => h)) ?_
      intro M20 J20 f20 q20
      obtain ⟨e20_1, e20_2⟩ := q20
      replace e20_1 := e20_1.symm; subst e20_1
      replace e20_2 := e20_2.symm; subst e20_2
      refine Z_aload_n (n := 24) dX3_variable_23 rfl rfl ?_
      refine Z_iload_n (n := 25) dX3_variable_24 rfl rfl ?_
      refine Z_aload_n (n := 26) dX3_variable_25 rfl rfl ?_
      refine Z_iload_n (n := 27) dX3_variable_26 rfl rfl ?_
      refine Z_callVi (n := 30) [_] _ dX3_variable_27 rfl cwX3_136 rfl rfl (by first | rfl | exact nS0 (nA_at (by omega) (by omega))) (Nat.le_of_ble_eq_true rfl) (by refine ⟨?_, ?_, ?_, ?_⟩ <;> exact Nat.le_of_ble_eq_true rfl) (fun a h => h.elim) (zX3_variableStep  (by omega) (by omega) (by exact (show pI (uz M 0 8 0) from pI_fr hc.1 (uz_o (by decide)) (uz_o (by decide)) (uz_o (by decide)) (uz_o (by decide)))) (by exact (show ordOK (uz M 0 8 0) from ordOK_fr hc.2.1 (uz_o (by decide))))) ?_
      intro x27 M27 J27 z27 f27 q27
      obtain ⟨e27_1, l27, u27, pi27, vs27⟩ := q27
      replace e27_1 := e27_1.symm; subst e27_1
      have hv27 := vs27 ⟨fun k k0 k1 => by rw [uz_oo (by decide)]; exact hf.1 k k0 k1, fun k k0 k1 => by rw [uz_oo (by decide)]; exact hf.2.1 k k0 k1, by rw [uz_n (by decide)]; exact hf.2.2⟩ (by rw [uz_oo (by decide)]; exact hm)
      refine Z_callVi (n := 33) [_, _] _ dX3_variable_30 rfl cwX3_133 rfl rfl (by first | rfl | exact nS0 (nA_at (by omega) (by omega))) (Nat.le_of_ble_eq_true rfl) (by refine ⟨?_, ?_, ?_, ?_⟩ <;> exact Nat.le_of_ble_eq_true rfl) (fun a h => h.elim) (zX3_give1  (by omega) (by omega) (by omega) (by omega) (by rw [hv27.1, hv27.2.1]; decide) (by rw [hv27.1, hv27.2.2]; decide)) ?_
      intro x30 M30 J30 z30 f30 q30
      obtain ⟨e30_1, h30⟩ := q30
      replace e30_1 := e30_1.symm; subst e30_1
      refine Z_iret dX3_variable_33 rfl ?_
      exact h30
    · refine Z_bipush (n := 18) dX3_variable_16 rfl (by decide) (by decide) ?_
      refine Z_iret dX3_variable_18 rfl ?_
      omega
  · refine Z_iconst (n := 8) dX3_variable_7 rfl (by decide) ?_
    refine Z_iret dX3_variable_8 rfl ?_
    omega
set_option maxRecDepth 20000 in
theorem zX3_combine {G : tl_G} {M : zM} {J : zJ} {h t f g : Int} (hc : cI M) : ZN G yX3_combine mX3_combine 13 kPub [vR 0, vI h, vI t, vI f, vI g] F1 M J (qI (fun x M' J' => J' = J ∧ cI M' ∧ (noH M → (((h < 0 ∨ 12 ≤ h) ∧ x = -1) ∨ (0 ≤ h ∧ h < 12 ∧ (t ≤ 0 ∨ 9 < t) ∧ x = -2) ∨ (0 ≤ h ∧ h < 12 ∧ 3 ≤ t ∧ t ≤ 9 ∧ x = -1) ∨ (0 ≤ h ∧ h < 12 ∧ (t = 1 ∨ t = 2) ∧ x = 0))))) := by
  refine ZN_of (L := [_, _, _, _, _, _, _]) (by decide) rfl rfl (Nat.le_of_ble_eq_true rfl) rfl (fun hav => ?_)
  refine Z_iload_n (n := 1) dX3_combine_0 rfl rfl ?_
  refine Z_callSi (n := 4) [_] _ dX3_combine_1 rfl cwX3_123 rfl rfl (Nat.le_of_ble_eq_true rfl) (by refine ⟨?_, ?_, ?_, ?_⟩ <;> exact Nat.le_of_ble_eq_true rfl) (fun _ _ => trivial) (zX3_isHandle  ) ?_
  intro x1 M1 J1 z1 f1 q1
  obtain ⟨e1_1, e1_2, h1⟩ := q1
  replace e1_1 := e1_1.symm; subst e1_1
  replace e1_2 := e1_2.symm; subst e1_2
  refine Z_if_ne (n := 7) (t := 9) dX3_combine_4 rfl (by decide) (fun c4 => ?_) (fun c4 => ?_)
  · refine Z_iload_n (n := 10) dX3_combine_9 rfl rfl ?_
    refine Z_if_le (n := 13) (t := 19) dX3_combine_10 rfl (by decide) (fun c10 => ?_) (fun c10 => ?_)
    · refine Z_bipush (n := 21) dX3_combine_19 rfl (by decide) (by decide) ?_
      refine Z_iret dX3_combine_21 rfl ?_
      exact ⟨rfl, hc, fun _ => Or.inr (Or.inl ⟨by omega, by omega, by omega, rfl⟩)⟩
    · refine Z_iload_n (n := 14) dX3_combine_13 rfl rfl ?_
      refine Z_bipush (n := 16) dX3_combine_14 rfl (by decide) (by decide) ?_
      refine Z_icmp_le (n := 19) (t := 22) dX3_combine_16 rfl (by decide) (fun c16 => ?_) (fun c16 => ?_)
      · refine Z_iload_n (n := 23) dX3_combine_22 rfl rfl ?_
        refine Z_iconst (n := 24) dX3_combine_23 rfl (by decide) ?_
        refine Z_icmp_lt (n := 27) (t := 31) dX3_combine_24 rfl (by decide) (fun c24 => ?_) (fun c24 => ?_)
        · refine Z_iconst (n := 32) dX3_combine_31 rfl (by decide) ?_
          refine Z_istore (L' := [_, _, _, _, _, _, _]) (n := 34) dX3_combine_32 rfl (by decide) rfl rfl ?_
          refine Z_iload_n (n := 35) dX3_combine_34 rfl rfl ?_
          refine Z_iconst (n := 36) dX3_combine_35 rfl (by decide) ?_
          refine Z_icmp_le (n := 39) (t := 43) dX3_combine_36 rfl (by decide) (fun c36 => ?_) (fun c36 => ?_)
          · refine Z_iconst (n := 44) dX3_combine_43 rfl (by decide) ?_
            refine Z_istore (L' := [_, _, _, _, _, _, _]) (n := 46) dX3_combine_44 rfl (by decide) rfl rfl ?_
            refine Z_iload (n := 48) dX3_combine_46 rfl rfl ?_
            refine Z_if_eq (n := 51) (t := 59) dX3_combine_48 rfl (by decide) (fun c48 => ?_) (fun c48 => ?_)
            · refine Z_iload (n := 61) dX3_combine_59 rfl rfl ?_
              refine Z_if_eq (n := 64) (t := 75) dX3_combine_61 rfl (by decide) (fun c61 => ?_) (fun c61 => ?_)
              · refine Z_aload_n (n := 76) dX3_combine_75 rfl rfl ?_
                refine Z_callVv (n := 79) [] _ dX3_combine_76 rfl cwX3_126 rfl rfl (by first | rfl | exact nS0 (nA_at (by omega) (by omega))) (Nat.le_of_ble_eq_true rfl) (by refine ⟨?_, ?_, ?_, ?_⟩ <;> exact Nat.le_of_ble_eq_true rfl) (fun _ h => h) (zX3_beginSteps  (by exact fun h => by unfold kPub at h; omega)) ?_
                intro M76 J76 f76 q76
                obtain ⟨e76_1, e76_2⟩ := q76
                replace e76_1 := e76_1.symm; subst e76_1
                replace e76_2 := e76_2.symm; subst e76_2
                refine Z_aload_n (n := 80) dX3_combine_79 rfl rfl ?_
                refine Z_iload_n (n := 81) dX3_combine_80 rfl rfl ?_
                refine Z_aload_n (n := 82) dX3_combine_81 rfl rfl ?_
                refine Z_iload_n (n := 83) dX3_combine_82 rfl rfl ?_
                refine Z_iload (n := 85) dX3_combine_83 rfl rfl ?_
                refine Z_if_eq (n := 88) (t := 97) dX3_combine_85 rfl (by decide) (fun c85 => ?_) (fun c85 => ?_)
                · refine Z_iconst (n := 98) dX3_combine_97 rfl (by decide) ?_
                  refine Z_iload (n := 100) dX3_combine_98 rfl rfl ?_
                  refine Z_if_eq (n := 103) (t := 113) dX3_combine_100 rfl (by decide) (fun c100 => ?_) (fun c100 => ?_)
                  · refine Z_iconst (n := 114) dX3_combine_113 rfl (by decide) ?_
                    refine Z_iconst (n := 115) dX3_combine_114 rfl (by decide) ?_
                    refine Z_callVi (n := 118) [_, _, _, _] _ dX3_combine_115 rfl cwX3_142 rfl rfl (by first | rfl | exact nS0 (nA_at (by omega) (by omega))) (Nat.le_of_ble_eq_true rfl) (by refine ⟨?_, ?_, ?_, ?_⟩ <;> exact Nat.le_of_ble_eq_true rfl) (fun a h => by unfold kPub at h; unfold kStep; omega) (zX3_kindStep  (by omega) (by omega) (by omega) (by omega) (by omega) (by omega) (by omega) (by omega) (by exact (show pI (uz M 0 8 0) from pI_fr hc.1 (uz_o (by decide)) (uz_o (by decide)) (uz_o (by decide)) (uz_o (by decide))))) ?_
                    intro x115 M115 J115 z115 f115 q115
                    obtain ⟨e115_1, l115, u115, pi115, kn115⟩ := q115
                    replace e115_1 := e115_1.symm; subst e115_1
                    refine Z_callVi (n := 121) [_, _] _ dX3_combine_118 rfl cwX3_133 rfl rfl (by first | rfl | exact nS0 (nA_at (by omega) (by omega))) (Nat.le_of_ble_eq_true rfl) (by refine ⟨?_, ?_, ?_, ?_⟩ <;> exact Nat.le_of_ble_eq_true rfl) (fun a h => by unfold kPub at h; unfold kGive; omega) (zX3_give  (by first | assumption | omega | decide) (by first | assumption | omega | decide) (by first | assumption | omega | decide) (by first | assumption | omega | decide)) ?_
                    intro x118 M118 J118 z118 f118 q118
                    obtain ⟨e118_1, h118⟩ := q118
                    replace e118_1 := e118_1.symm; subst e118_1
                    refine Z_fr (fun frR => ?_)
                    refine Z_iret dX3_combine_121 rfl ?_
                    refine ⟨rfl, cI_mk hc frR (pI_fr pi115 (f118 5 (by decide)).1 (f118 6 (by decide)).1 (f118 10 (by decide)).1 (f118 11 (by decide)).1) (ordOK_fr (show ordOK (uz M 0 8 0) from ordOK_fr hc.2.1 (uz_o (by decide))) (((f118 4 (by decide)).1).trans (f115 4 (by decide)).1)), fun q => ?_⟩
                    first
                      | (have := q f (by omega) (by omega); omega)
                      | (have := q g (by omega) (by omega); omega)
                      | (refine Or.inr (Or.inr (Or.inr ⟨by omega, by omega, by omega, ?_⟩))
                         rcases (show t = 1 ∨ t = 2 by omega) with e | e
                         · have := kn115.1 rfl rfl rfl e; omega
                         · have := kn115.2 rfl rfl rfl e; omega)
                  · refine Z_aload_n (n := 104) dX3_combine_103 rfl rfl ?_
                    refine Z_getA (n := 107) dX3_combine_104 rfl ffX3_29 (by first | rfl | exact nS0 (nA_at (by omega) (by omega))) (by first | rfl | exact nS0 (nA_at (by omega) (by omega))) ?_
                    refine Z_iload (n := 109) dX3_combine_107 rfl rfl ?_
                    refine Z_iald (n := 110) dX3_combine_109 rfl (by first | rfl | exact nS0 (nA_at (by omega) (by omega))) rfl (by first | decide | assumption) (by omega) (by omega) (fun r109 s109 => ?_)
                    try simp only [uz_oo (show (12 : Nat) ≠ 0 by decide)] at r109 s109 ⊢
                    refine Z_goto (t := 114) dX3_combine_110 (by decide) ?_
                    refine Z_iconst (n := 115) dX3_combine_114 rfl (by decide) ?_
                    refine Z_callVi (n := 118) [_, _, _, _] _ dX3_combine_115 rfl cwX3_142 rfl rfl (by first | rfl | exact nS0 (nA_at (by omega) (by omega))) (Nat.le_of_ble_eq_true rfl) (by refine ⟨?_, ?_, ?_, ?_⟩ <;> exact Nat.le_of_ble_eq_true rfl) (fun a h => by unfold kPub at h; unfold kStep; omega) (zX3_kindStep  (by omega) (by omega) (by omega) (by omega) (by omega) (by omega) (by omega) (by omega) (by exact (show pI (uz M 0 8 0) from pI_fr hc.1 (uz_o (by decide)) (uz_o (by decide)) (uz_o (by decide)) (uz_o (by decide))))) ?_
                    intro x115 M115 J115 z115 f115 q115
                    obtain ⟨e115_1, l115, u115, pi115, kn115⟩ := q115
                    replace e115_1 := e115_1.symm; subst e115_1
                    refine Z_callVi (n := 121) [_, _] _ dX3_combine_118 rfl cwX3_133 rfl rfl (by first | rfl | exact nS0 (nA_at (by omega) (by omega))) (Nat.le_of_ble_eq_true rfl) (by refine ⟨?_, ?_, ?_, ?_⟩ <;> exact Nat.le_of_ble_eq_true rfl) (fun a h => by unfold kPub at h; unfold kGive; omega) (zX3_give  (by first | assumption | omega | decide) (by first | assumption | omega | decide) (by first | assumption | omega | decide) (by first | assumption | omega | decide)) ?_
                    intro x118 M118 J118 z118 f118 q118
                    obtain ⟨e118_1, h118⟩ := q118
                    replace e118_1 := e118_1.symm; subst e118_1
                    refine Z_fr (fun frR => ?_)
                    refine Z_iret dX3_combine_121 rfl ?_
                    refine ⟨rfl, cI_mk hc frR (pI_fr pi115 (f118 5 (by decide)).1 (f118 6 (by decide)).1 (f118 10 (by decide)).1 (f118 11 (by decide)).1) (ordOK_fr (show ordOK (uz M 0 8 0) from ordOK_fr hc.2.1 (uz_o (by decide))) (((f118 4 (by decide)).1).trans (f115 4 (by decide)).1)), fun q => ?_⟩
                    first
                      | (have := q f (by omega) (by omega); omega)
                      | (have := q g (by omega) (by omega); omega)
                      | (refine Or.inr (Or.inr (Or.inr ⟨by omega, by omega, by omega, ?_⟩))
                         rcases (show t = 1 ∨ t = 2 by omega) with e | e
                         · have := kn115.1 rfl rfl rfl e; omega
                         · have := kn115.2 rfl rfl rfl e; omega)
                · refine Z_aload_n (n := 89) dX3_combine_88 rfl rfl ?_
                  refine Z_getA (n := 92) dX3_combine_89 rfl ffX3_29 (by first | rfl | exact nS0 (nA_at (by omega) (by omega))) (by first | rfl | exact nS0 (nA_at (by omega) (by omega))) ?_
                  refine Z_iload_n (n := 93) dX3_combine_92 rfl rfl ?_
                  refine Z_iald (n := 94) dX3_combine_93 rfl (by first | rfl | exact nS0 (nA_at (by omega) (by omega))) rfl (by first | decide | assumption) (by omega) (by omega) (fun r93 s93 => ?_)
                  try simp only [uz_oo (show (12 : Nat) ≠ 0 by decide)] at r93 s93 ⊢
                  refine Z_goto (t := 98) dX3_combine_94 (by decide) ?_
                  refine Z_iload (n := 100) dX3_combine_98 rfl rfl ?_
                  refine Z_if_eq (n := 103) (t := 113) dX3_combine_100 rfl (by decide) (fun c100 => ?_) (fun c100 => ?_)
                  · refine Z_iconst (n := 114) dX3_combine_113 rfl (by decide) ?_
                    refine Z_iconst (n := 115) dX3_combine_114 rfl (by decide) ?_
                    refine Z_callVi (n := 118) [_, _, _, _] _ dX3_combine_115 rfl cwX3_142 rfl rfl (by first | rfl | exact nS0 (nA_at (by omega) (by omega))) (Nat.le_of_ble_eq_true rfl) (by refine ⟨?_, ?_, ?_, ?_⟩ <;> exact Nat.le_of_ble_eq_true rfl) (fun a h => by unfold kPub at h; unfold kStep; omega) (zX3_kindStep  (by omega) (by omega) (by omega) (by omega) (by omega) (by omega) (by omega) (by omega) (by exact (show pI (uz M 0 8 0) from pI_fr hc.1 (uz_o (by decide)) (uz_o (by decide)) (uz_o (by decide)) (uz_o (by decide))))) ?_
                    intro x115 M115 J115 z115 f115 q115
                    obtain ⟨e115_1, l115, u115, pi115, kn115⟩ := q115
                    replace e115_1 := e115_1.symm; subst e115_1
                    refine Z_callVi (n := 121) [_, _] _ dX3_combine_118 rfl cwX3_133 rfl rfl (by first | rfl | exact nS0 (nA_at (by omega) (by omega))) (Nat.le_of_ble_eq_true rfl) (by refine ⟨?_, ?_, ?_, ?_⟩ <;> exact Nat.le_of_ble_eq_true rfl) (fun a h => by unfold kPub at h; unfold kGive; omega) (zX3_give  (by first | assumption | omega | decide) (by first | assumption | omega | decide) (by first | assumption | omega | decide) (by first | assumption | omega | decide)) ?_
                    intro x118 M118 J118 z118 f118 q118
                    obtain ⟨e118_1, h118⟩ := q118
                    replace e118_1 := e118_1.symm; subst e118_1
                    refine Z_fr (fun frR => ?_)
                    refine Z_iret dX3_combine_121 rfl ?_
                    refine ⟨rfl, cI_mk hc frR (pI_fr pi115 (f118 5 (by decide)).1 (f118 6 (by decide)).1 (f118 10 (by decide)).1 (f118 11 (by decide)).1) (ordOK_fr (show ordOK (uz M 0 8 0) from ordOK_fr hc.2.1 (uz_o (by decide))) (((f118 4 (by decide)).1).trans (f115 4 (by decide)).1)), fun q => ?_⟩
                    first
                      | (have := q f (by omega) (by omega); omega)
                      | (have := q g (by omega) (by omega); omega)
                      | (refine Or.inr (Or.inr (Or.inr ⟨by omega, by omega, by omega, ?_⟩))
                         rcases (show t = 1 ∨ t = 2 by omega) with e | e
                         · have := kn115.1 rfl rfl rfl e; omega
                         · have := kn115.2 rfl rfl rfl e; omega)
                  · refine Z_aload_n (n := 104) dX3_combine_103 rfl rfl ?_
                    refine Z_getA (n := 107) dX3_combine_104 rfl ffX3_29 (by first | rfl | exact nS0 (nA_at (by omega) (by omega))) (by first | rfl | exact nS0 (nA_at (by omega) (by omega))) ?_
                    refine Z_iload (n := 109) dX3_combine_107 rfl rfl ?_
                    refine Z_iald (n := 110) dX3_combine_109 rfl (by first | rfl | exact nS0 (nA_at (by omega) (by omega))) rfl (by first | decide | assumption) (by omega) (by omega) (fun r109 s109 => ?_)
                    try simp only [uz_oo (show (12 : Nat) ≠ 0 by decide)] at r109 s109 ⊢
                    refine Z_goto (t := 114) dX3_combine_110 (by decide) ?_
                    refine Z_iconst (n := 115) dX3_combine_114 rfl (by decide) ?_
                    refine Z_callVi (n := 118) [_, _, _, _] _ dX3_combine_115 rfl cwX3_142 rfl rfl (by first | rfl | exact nS0 (nA_at (by omega) (by omega))) (Nat.le_of_ble_eq_true rfl) (by refine ⟨?_, ?_, ?_, ?_⟩ <;> exact Nat.le_of_ble_eq_true rfl) (fun a h => by unfold kPub at h; unfold kStep; omega) (zX3_kindStep  (by omega) (by omega) (by omega) (by omega) (by omega) (by omega) (by omega) (by omega) (by exact (show pI (uz M 0 8 0) from pI_fr hc.1 (uz_o (by decide)) (uz_o (by decide)) (uz_o (by decide)) (uz_o (by decide))))) ?_
                    intro x115 M115 J115 z115 f115 q115
                    obtain ⟨e115_1, l115, u115, pi115, kn115⟩ := q115
                    replace e115_1 := e115_1.symm; subst e115_1
                    refine Z_callVi (n := 121) [_, _] _ dX3_combine_118 rfl cwX3_133 rfl rfl (by first | rfl | exact nS0 (nA_at (by omega) (by omega))) (Nat.le_of_ble_eq_true rfl) (by refine ⟨?_, ?_, ?_, ?_⟩ <;> exact Nat.le_of_ble_eq_true rfl) (fun a h => by unfold kPub at h; unfold kGive; omega) (zX3_give  (by first | assumption | omega | decide) (by first | assumption | omega | decide) (by first | assumption | omega | decide) (by first | assumption | omega | decide)) ?_
                    intro x118 M118 J118 z118 f118 q118
                    obtain ⟨e118_1, h118⟩ := q118
                    replace e118_1 := e118_1.symm; subst e118_1
                    refine Z_fr (fun frR => ?_)
                    refine Z_iret dX3_combine_121 rfl ?_
                    refine ⟨rfl, cI_mk hc frR (pI_fr pi115 (f118 5 (by decide)).1 (f118 6 (by decide)).1 (f118 10 (by decide)).1 (f118 11 (by decide)).1) (ordOK_fr (show ordOK (uz M 0 8 0) from ordOK_fr hc.2.1 (uz_o (by decide))) (((f118 4 (by decide)).1).trans (f115 4 (by decide)).1)), fun q => ?_⟩
                    first
                      | (have := q f (by omega) (by omega); omega)
                      | (have := q g (by omega) (by omega); omega)
                      | (refine Or.inr (Or.inr (Or.inr ⟨by omega, by omega, by omega, ?_⟩))
                         rcases (show t = 1 ∨ t = 2 by omega) with e | e
                         · have := kn115.1 rfl rfl rfl e; omega
                         · have := kn115.2 rfl rfl rfl e; omega)
              · refine Z_aload_n (n := 65) dX3_combine_64 rfl rfl ?_
                refine Z_iload (n := 67) dX3_combine_65 rfl rfl ?_
                refine Z_callVi (n := 70) [_] _ dX3_combine_67 rfl cwX3_139 rfl rfl (by first | rfl | exact nS0 (nA_at (by omega) (by omega))) (Nat.le_of_ble_eq_true rfl) (by refine ⟨?_, ?_, ?_, ?_⟩ <;> exact Nat.le_of_ble_eq_true rfl) (fun _ _ => trivial) (zX3_hasFunction  ) ?_
                intro x67 M67 J67 z67 f67 q67
                obtain ⟨e67_1, e67_2, h67⟩ := q67
                replace e67_1 := e67_1.symm; subst e67_1
                replace e67_2 := e67_2.symm; subst e67_2
                refine Z_if_ne (n := 73) (t := 75) dX3_combine_70 rfl (by decide) (fun c70 => ?_) (fun c70 => ?_)
                · refine Z_aload_n (n := 76) dX3_combine_75 rfl rfl ?_
                  refine Z_callVv (n := 79) [] _ dX3_combine_76 rfl cwX3_126 rfl rfl (by first | rfl | exact nS0 (nA_at (by omega) (by omega))) (Nat.le_of_ble_eq_true rfl) (by refine ⟨?_, ?_, ?_, ?_⟩ <;> exact Nat.le_of_ble_eq_true rfl) (fun _ h => h) (zX3_beginSteps  (by exact fun h => by unfold kPub at h; omega)) ?_
                  intro M76 J76 f76 q76
                  obtain ⟨e76_1, e76_2⟩ := q76
                  replace e76_1 := e76_1.symm; subst e76_1
                  replace e76_2 := e76_2.symm; subst e76_2
                  refine Z_aload_n (n := 80) dX3_combine_79 rfl rfl ?_
                  refine Z_iload_n (n := 81) dX3_combine_80 rfl rfl ?_
                  refine Z_aload_n (n := 82) dX3_combine_81 rfl rfl ?_
                  refine Z_iload_n (n := 83) dX3_combine_82 rfl rfl ?_
                  refine Z_iload (n := 85) dX3_combine_83 rfl rfl ?_
                  refine Z_if_eq (n := 88) (t := 97) dX3_combine_85 rfl (by decide) (fun c85 => ?_) (fun c85 => ?_)
                  · refine Z_iconst (n := 98) dX3_combine_97 rfl (by decide) ?_
                    refine Z_iload (n := 100) dX3_combine_98 rfl rfl ?_
                    refine Z_if_eq (n := 103) (t := 113) dX3_combine_100 rfl (by decide) (fun c100 => ?_) (fun c100 => ?_)
                    · refine Z_iconst (n := 114) dX3_combine_113 rfl (by decide) ?_
                      refine Z_iconst (n := 115) dX3_combine_114 rfl (by decide) ?_
                      refine Z_callVi (n := 118) [_, _, _, _] _ dX3_combine_115 rfl cwX3_142 rfl rfl (by first | rfl | exact nS0 (nA_at (by omega) (by omega))) (Nat.le_of_ble_eq_true rfl) (by refine ⟨?_, ?_, ?_, ?_⟩ <;> exact Nat.le_of_ble_eq_true rfl) (fun a h => by unfold kPub at h; unfold kStep; omega) (zX3_kindStep  (by omega) (by omega) (by omega) (by omega) (by omega) (by omega) (by omega) (by omega) (by exact (show pI (uz M 0 8 0) from pI_fr hc.1 (uz_o (by decide)) (uz_o (by decide)) (uz_o (by decide)) (uz_o (by decide))))) ?_
                      intro x115 M115 J115 z115 f115 q115
                      obtain ⟨e115_1, l115, u115, pi115, kn115⟩ := q115
                      replace e115_1 := e115_1.symm; subst e115_1
                      refine Z_callVi (n := 121) [_, _] _ dX3_combine_118 rfl cwX3_133 rfl rfl (by first | rfl | exact nS0 (nA_at (by omega) (by omega))) (Nat.le_of_ble_eq_true rfl) (by refine ⟨?_, ?_, ?_, ?_⟩ <;> exact Nat.le_of_ble_eq_true rfl) (fun a h => by unfold kPub at h; unfold kGive; omega) (zX3_give  (by first | assumption | omega | decide) (by first | assumption | omega | decide) (by first | assumption | omega | decide) (by first | assumption | omega | decide)) ?_
                      intro x118 M118 J118 z118 f118 q118
                      obtain ⟨e118_1, h118⟩ := q118
                      replace e118_1 := e118_1.symm; subst e118_1
                      refine Z_fr (fun frR => ?_)
                      refine Z_iret dX3_combine_121 rfl ?_
                      refine ⟨rfl, cI_mk hc frR (pI_fr pi115 (f118 5 (by decide)).1 (f118 6 (by decide)).1 (f118 10 (by decide)).1 (f118 11 (by decide)).1) (ordOK_fr (show ordOK (uz M 0 8 0) from ordOK_fr hc.2.1 (uz_o (by decide))) (((f118 4 (by decide)).1).trans (f115 4 (by decide)).1)), fun q => ?_⟩
                      first
                        | (have := q f (by omega) (by omega); omega)
                        | (have := q g (by omega) (by omega); omega)
                        | (refine Or.inr (Or.inr (Or.inr ⟨by omega, by omega, by omega, ?_⟩))
                           rcases (show t = 1 ∨ t = 2 by omega) with e | e
                           · have := kn115.1 rfl rfl rfl e; omega
                           · have := kn115.2 rfl rfl rfl e; omega)
                    · refine Z_aload_n (n := 104) dX3_combine_103 rfl rfl ?_
                      refine Z_getA (n := 107) dX3_combine_104 rfl ffX3_29 (by first | rfl | exact nS0 (nA_at (by omega) (by omega))) (by first | rfl | exact nS0 (nA_at (by omega) (by omega))) ?_
                      refine Z_iload (n := 109) dX3_combine_107 rfl rfl ?_
                      refine Z_iald (n := 110) dX3_combine_109 rfl (by first | rfl | exact nS0 (nA_at (by omega) (by omega))) rfl (by first | decide | assumption) (by omega) (by omega) (fun r109 s109 => ?_)
                      try simp only [uz_oo (show (12 : Nat) ≠ 0 by decide)] at r109 s109 ⊢
                      refine Z_goto (t := 114) dX3_combine_110 (by decide) ?_
                      refine Z_iconst (n := 115) dX3_combine_114 rfl (by decide) ?_
                      refine Z_callVi (n := 118) [_, _, _, _] _ dX3_combine_115 rfl cwX3_142 rfl rfl (by first | rfl | exact nS0 (nA_at (by omega) (by omega))) (Nat.le_of_ble_eq_true rfl) (by refine ⟨?_, ?_, ?_, ?_⟩ <;> exact Nat.le_of_ble_eq_true rfl) (fun a h => by unfold kPub at h; unfold kStep; omega) (zX3_kindStep  (by omega) (by omega) (by omega) (by omega) (by omega) (by omega) (by omega) (by omega) (by exact (show pI (uz M 0 8 0) from pI_fr hc.1 (uz_o (by decide)) (uz_o (by decide)) (uz_o (by decide)) (uz_o (by decide))))) ?_
                      intro x115 M115 J115 z115 f115 q115
                      obtain ⟨e115_1, l115, u115, pi115, kn115⟩ := q115
                      replace e115_1 := e115_1.symm; subst e115_1
                      refine Z_callVi (n := 121) [_, _] _ dX3_combine_118 rfl cwX3_133 rfl rfl (by first | rfl | exact nS0 (nA_at (by omega) (by omega))) (Nat.le_of_ble_eq_true rfl) (by refine ⟨?_, ?_, ?_, ?_⟩ <;> exact Nat.le_of_ble_eq_true rfl) (fun a h => by unfold kPub at h; unfold kGive; omega) (zX3_give  (by first | assumption | omega | decide) (by first | assumption | omega | decide) (by first | assumption | omega | decide) (by first | assumption | omega | decide)) ?_
                      intro x118 M118 J118 z118 f118 q118
                      obtain ⟨e118_1, h118⟩ := q118
                      replace e118_1 := e118_1.symm; subst e118_1
                      refine Z_fr (fun frR => ?_)
                      refine Z_iret dX3_combine_121 rfl ?_
                      refine ⟨rfl, cI_mk hc frR (pI_fr pi115 (f118 5 (by decide)).1 (f118 6 (by decide)).1 (f118 10 (by decide)).1 (f118 11 (by decide)).1) (ordOK_fr (show ordOK (uz M 0 8 0) from ordOK_fr hc.2.1 (uz_o (by decide))) (((f118 4 (by decide)).1).trans (f115 4 (by decide)).1)), fun q => ?_⟩
                      first
                        | (have := q f (by omega) (by omega); omega)
                        | (have := q g (by omega) (by omega); omega)
                        | (refine Or.inr (Or.inr (Or.inr ⟨by omega, by omega, by omega, ?_⟩))
                           rcases (show t = 1 ∨ t = 2 by omega) with e | e
                           · have := kn115.1 rfl rfl rfl e; omega
                           · have := kn115.2 rfl rfl rfl e; omega)
                  · refine Z_aload_n (n := 89) dX3_combine_88 rfl rfl ?_
                    refine Z_getA (n := 92) dX3_combine_89 rfl ffX3_29 (by first | rfl | exact nS0 (nA_at (by omega) (by omega))) (by first | rfl | exact nS0 (nA_at (by omega) (by omega))) ?_
                    refine Z_iload_n (n := 93) dX3_combine_92 rfl rfl ?_
                    refine Z_iald (n := 94) dX3_combine_93 rfl (by first | rfl | exact nS0 (nA_at (by omega) (by omega))) rfl (by first | decide | assumption) (by omega) (by omega) (fun r93 s93 => ?_)
                    try simp only [uz_oo (show (12 : Nat) ≠ 0 by decide)] at r93 s93 ⊢
                    refine Z_goto (t := 98) dX3_combine_94 (by decide) ?_
                    refine Z_iload (n := 100) dX3_combine_98 rfl rfl ?_
                    refine Z_if_eq (n := 103) (t := 113) dX3_combine_100 rfl (by decide) (fun c100 => ?_) (fun c100 => ?_)
                    · refine Z_iconst (n := 114) dX3_combine_113 rfl (by decide) ?_
                      refine Z_iconst (n := 115) dX3_combine_114 rfl (by decide) ?_
                      refine Z_callVi (n := 118) [_, _, _, _] _ dX3_combine_115 rfl cwX3_142 rfl rfl (by first | rfl | exact nS0 (nA_at (by omega) (by omega))) (Nat.le_of_ble_eq_true rfl) (by refine ⟨?_, ?_, ?_, ?_⟩ <;> exact Nat.le_of_ble_eq_true rfl) (fun a h => by unfold kPub at h; unfold kStep; omega) (zX3_kindStep  (by omega) (by omega) (by omega) (by omega) (by omega) (by omega) (by omega) (by omega) (by exact (show pI (uz M 0 8 0) from pI_fr hc.1 (uz_o (by decide)) (uz_o (by decide)) (uz_o (by decide)) (uz_o (by decide))))) ?_
                      intro x115 M115 J115 z115 f115 q115
                      obtain ⟨e115_1, l115, u115, pi115, kn115⟩ := q115
                      replace e115_1 := e115_1.symm; subst e115_1
                      refine Z_callVi (n := 121) [_, _] _ dX3_combine_118 rfl cwX3_133 rfl rfl (by first | rfl | exact nS0 (nA_at (by omega) (by omega))) (Nat.le_of_ble_eq_true rfl) (by refine ⟨?_, ?_, ?_, ?_⟩ <;> exact Nat.le_of_ble_eq_true rfl) (fun a h => by unfold kPub at h; unfold kGive; omega) (zX3_give  (by first | assumption | omega | decide) (by first | assumption | omega | decide) (by first | assumption | omega | decide) (by first | assumption | omega | decide)) ?_
                      intro x118 M118 J118 z118 f118 q118
                      obtain ⟨e118_1, h118⟩ := q118
                      replace e118_1 := e118_1.symm; subst e118_1
                      refine Z_fr (fun frR => ?_)
                      refine Z_iret dX3_combine_121 rfl ?_
                      refine ⟨rfl, cI_mk hc frR (pI_fr pi115 (f118 5 (by decide)).1 (f118 6 (by decide)).1 (f118 10 (by decide)).1 (f118 11 (by decide)).1) (ordOK_fr (show ordOK (uz M 0 8 0) from ordOK_fr hc.2.1 (uz_o (by decide))) (((f118 4 (by decide)).1).trans (f115 4 (by decide)).1)), fun q => ?_⟩
                      first
                        | (have := q f (by omega) (by omega); omega)
                        | (have := q g (by omega) (by omega); omega)
                        | (refine Or.inr (Or.inr (Or.inr ⟨by omega, by omega, by omega, ?_⟩))
                           rcases (show t = 1 ∨ t = 2 by omega) with e | e
                           · have := kn115.1 rfl rfl rfl e; omega
                           · have := kn115.2 rfl rfl rfl e; omega)
                    · refine Z_aload_n (n := 104) dX3_combine_103 rfl rfl ?_
                      refine Z_getA (n := 107) dX3_combine_104 rfl ffX3_29 (by first | rfl | exact nS0 (nA_at (by omega) (by omega))) (by first | rfl | exact nS0 (nA_at (by omega) (by omega))) ?_
                      refine Z_iload (n := 109) dX3_combine_107 rfl rfl ?_
                      refine Z_iald (n := 110) dX3_combine_109 rfl (by first | rfl | exact nS0 (nA_at (by omega) (by omega))) rfl (by first | decide | assumption) (by omega) (by omega) (fun r109 s109 => ?_)
                      try simp only [uz_oo (show (12 : Nat) ≠ 0 by decide)] at r109 s109 ⊢
                      refine Z_goto (t := 114) dX3_combine_110 (by decide) ?_
                      refine Z_iconst (n := 115) dX3_combine_114 rfl (by decide) ?_
                      refine Z_callVi (n := 118) [_, _, _, _] _ dX3_combine_115 rfl cwX3_142 rfl rfl (by first | rfl | exact nS0 (nA_at (by omega) (by omega))) (Nat.le_of_ble_eq_true rfl) (by refine ⟨?_, ?_, ?_, ?_⟩ <;> exact Nat.le_of_ble_eq_true rfl) (fun a h => by unfold kPub at h; unfold kStep; omega) (zX3_kindStep  (by omega) (by omega) (by omega) (by omega) (by omega) (by omega) (by omega) (by omega) (by exact (show pI (uz M 0 8 0) from pI_fr hc.1 (uz_o (by decide)) (uz_o (by decide)) (uz_o (by decide)) (uz_o (by decide))))) ?_
                      intro x115 M115 J115 z115 f115 q115
                      obtain ⟨e115_1, l115, u115, pi115, kn115⟩ := q115
                      replace e115_1 := e115_1.symm; subst e115_1
                      refine Z_callVi (n := 121) [_, _] _ dX3_combine_118 rfl cwX3_133 rfl rfl (by first | rfl | exact nS0 (nA_at (by omega) (by omega))) (Nat.le_of_ble_eq_true rfl) (by refine ⟨?_, ?_, ?_, ?_⟩ <;> exact Nat.le_of_ble_eq_true rfl) (fun a h => by unfold kPub at h; unfold kGive; omega) (zX3_give  (by first | assumption | omega | decide) (by first | assumption | omega | decide) (by first | assumption | omega | decide) (by first | assumption | omega | decide)) ?_
                      intro x118 M118 J118 z118 f118 q118
                      obtain ⟨e118_1, h118⟩ := q118
                      replace e118_1 := e118_1.symm; subst e118_1
                      refine Z_fr (fun frR => ?_)
                      refine Z_iret dX3_combine_121 rfl ?_
                      refine ⟨rfl, cI_mk hc frR (pI_fr pi115 (f118 5 (by decide)).1 (f118 6 (by decide)).1 (f118 10 (by decide)).1 (f118 11 (by decide)).1) (ordOK_fr (show ordOK (uz M 0 8 0) from ordOK_fr hc.2.1 (uz_o (by decide))) (((f118 4 (by decide)).1).trans (f115 4 (by decide)).1)), fun q => ?_⟩
                      first
                        | (have := q f (by omega) (by omega); omega)
                        | (have := q g (by omega) (by omega); omega)
                        | (refine Or.inr (Or.inr (Or.inr ⟨by omega, by omega, by omega, ?_⟩))
                           rcases (show t = 1 ∨ t = 2 by omega) with e | e
                           · have := kn115.1 rfl rfl rfl e; omega
                           · have := kn115.2 rfl rfl rfl e; omega)
                · refine Z_iconst (n := 74) dX3_combine_73 rfl (by decide) ?_
                  refine Z_iret dX3_combine_74 rfl ?_
                  exact ⟨rfl, hc, fun _ => Or.inr (Or.inr (Or.inl ⟨by omega, by omega, by omega, by omega, rfl⟩))⟩
            · refine Z_aload_n (n := 52) dX3_combine_51 rfl rfl ?_
              refine Z_iload_n (n := 53) dX3_combine_52 rfl rfl ?_
              refine Z_callVi (n := 56) [_] _ dX3_combine_53 rfl cwX3_139 rfl rfl (by first | rfl | exact nS0 (nA_at (by omega) (by omega))) (Nat.le_of_ble_eq_true rfl) (by refine ⟨?_, ?_, ?_, ?_⟩ <;> exact Nat.le_of_ble_eq_true rfl) (fun _ _ => trivial) (zX3_hasFunction  ) ?_
              intro x53 M53 J53 z53 f53 q53
              obtain ⟨e53_1, e53_2, h53⟩ := q53
              replace e53_1 := e53_1.symm; subst e53_1
              replace e53_2 := e53_2.symm; subst e53_2
              refine Z_if_eq (n := 59) (t := 73) dX3_combine_56 rfl (by decide) (fun c56 => ?_) (fun c56 => ?_)
              · refine Z_iconst (n := 74) dX3_combine_73 rfl (by decide) ?_
                refine Z_iret dX3_combine_74 rfl ?_
                exact ⟨rfl, hc, fun _ => Or.inr (Or.inr (Or.inl ⟨by omega, by omega, by omega, by omega, rfl⟩))⟩
              · refine Z_iload (n := 61) dX3_combine_59 rfl rfl ?_
                refine Z_if_eq (n := 64) (t := 75) dX3_combine_61 rfl (by decide) (fun c61 => ?_) (fun c61 => ?_)
                · refine Z_aload_n (n := 76) dX3_combine_75 rfl rfl ?_
                  refine Z_callVv (n := 79) [] _ dX3_combine_76 rfl cwX3_126 rfl rfl (by first | rfl | exact nS0 (nA_at (by omega) (by omega))) (Nat.le_of_ble_eq_true rfl) (by refine ⟨?_, ?_, ?_, ?_⟩ <;> exact Nat.le_of_ble_eq_true rfl) (fun _ h => h) (zX3_beginSteps  (by exact fun h => by unfold kPub at h; omega)) ?_
                  intro M76 J76 f76 q76
                  obtain ⟨e76_1, e76_2⟩ := q76
                  replace e76_1 := e76_1.symm; subst e76_1
                  replace e76_2 := e76_2.symm; subst e76_2
                  refine Z_aload_n (n := 80) dX3_combine_79 rfl rfl ?_
                  refine Z_iload_n (n := 81) dX3_combine_80 rfl rfl ?_
                  refine Z_aload_n (n := 82) dX3_combine_81 rfl rfl ?_
                  refine Z_iload_n (n := 83) dX3_combine_82 rfl rfl ?_
                  refine Z_iload (n := 85) dX3_combine_83 rfl rfl ?_
                  refine Z_if_eq (n := 88) (t := 97) dX3_combine_85 rfl (by decide) (fun c85 => ?_) (fun c85 => ?_)
                  · refine Z_iconst (n := 98) dX3_combine_97 rfl (by decide) ?_
                    refine Z_iload (n := 100) dX3_combine_98 rfl rfl ?_
                    refine Z_if_eq (n := 103) (t := 113) dX3_combine_100 rfl (by decide) (fun c100 => ?_) (fun c100 => ?_)
                    · refine Z_iconst (n := 114) dX3_combine_113 rfl (by decide) ?_
                      refine Z_iconst (n := 115) dX3_combine_114 rfl (by decide) ?_
                      refine Z_callVi (n := 118) [_, _, _, _] _ dX3_combine_115 rfl cwX3_142 rfl rfl (by first | rfl | exact nS0 (nA_at (by omega) (by omega))) (Nat.le_of_ble_eq_true rfl) (by refine ⟨?_, ?_, ?_, ?_⟩ <;> exact Nat.le_of_ble_eq_true rfl) (fun a h => by unfold kPub at h; unfold kStep; omega) (zX3_kindStep  (by omega) (by omega) (by omega) (by omega) (by omega) (by omega) (by omega) (by omega) (by exact (show pI (uz M 0 8 0) from pI_fr hc.1 (uz_o (by decide)) (uz_o (by decide)) (uz_o (by decide)) (uz_o (by decide))))) ?_
                      intro x115 M115 J115 z115 f115 q115
                      obtain ⟨e115_1, l115, u115, pi115, kn115⟩ := q115
                      replace e115_1 := e115_1.symm; subst e115_1
                      refine Z_callVi (n := 121) [_, _] _ dX3_combine_118 rfl cwX3_133 rfl rfl (by first | rfl | exact nS0 (nA_at (by omega) (by omega))) (Nat.le_of_ble_eq_true rfl) (by refine ⟨?_, ?_, ?_, ?_⟩ <;> exact Nat.le_of_ble_eq_true rfl) (fun a h => by unfold kPub at h; unfold kGive; omega) (zX3_give  (by first | assumption | omega | decide) (by first | assumption | omega | decide) (by first | assumption | omega | decide) (by first | assumption | omega | decide)) ?_
                      intro x118 M118 J118 z118 f118 q118
                      obtain ⟨e118_1, h118⟩ := q118
                      replace e118_1 := e118_1.symm; subst e118_1
                      refine Z_fr (fun frR => ?_)
                      refine Z_iret dX3_combine_121 rfl ?_
                      refine ⟨rfl, cI_mk hc frR (pI_fr pi115 (f118 5 (by decide)).1 (f118 6 (by decide)).1 (f118 10 (by decide)).1 (f118 11 (by decide)).1) (ordOK_fr (show ordOK (uz M 0 8 0) from ordOK_fr hc.2.1 (uz_o (by decide))) (((f118 4 (by decide)).1).trans (f115 4 (by decide)).1)), fun q => ?_⟩
                      first
                        | (have := q f (by omega) (by omega); omega)
                        | (have := q g (by omega) (by omega); omega)
                        | (refine Or.inr (Or.inr (Or.inr ⟨by omega, by omega, by omega, ?_⟩))
                           rcases (show t = 1 ∨ t = 2 by omega) with e | e
                           · have := kn115.1 rfl rfl rfl e; omega
                           · have := kn115.2 rfl rfl rfl e; omega)
                    · refine Z_aload_n (n := 104) dX3_combine_103 rfl rfl ?_
                      refine Z_getA (n := 107) dX3_combine_104 rfl ffX3_29 (by first | rfl | exact nS0 (nA_at (by omega) (by omega))) (by first | rfl | exact nS0 (nA_at (by omega) (by omega))) ?_
                      refine Z_iload (n := 109) dX3_combine_107 rfl rfl ?_
                      refine Z_iald (n := 110) dX3_combine_109 rfl (by first | rfl | exact nS0 (nA_at (by omega) (by omega))) rfl (by first | decide | assumption) (by omega) (by omega) (fun r109 s109 => ?_)
                      try simp only [uz_oo (show (12 : Nat) ≠ 0 by decide)] at r109 s109 ⊢
                      refine Z_goto (t := 114) dX3_combine_110 (by decide) ?_
                      refine Z_iconst (n := 115) dX3_combine_114 rfl (by decide) ?_
                      refine Z_callVi (n := 118) [_, _, _, _] _ dX3_combine_115 rfl cwX3_142 rfl rfl (by first | rfl | exact nS0 (nA_at (by omega) (by omega))) (Nat.le_of_ble_eq_true rfl) (by refine ⟨?_, ?_, ?_, ?_⟩ <;> exact Nat.le_of_ble_eq_true rfl) (fun a h => by unfold kPub at h; unfold kStep; omega) (zX3_kindStep  (by omega) (by omega) (by omega) (by omega) (by omega) (by omega) (by omega) (by omega) (by exact (show pI (uz M 0 8 0) from pI_fr hc.1 (uz_o (by decide)) (uz_o (by decide)) (uz_o (by decide)) (uz_o (by decide))))) ?_
                      intro x115 M115 J115 z115 f115 q115
                      obtain ⟨e115_1, l115, u115, pi115, kn115⟩ := q115
                      replace e115_1 := e115_1.symm; subst e115_1
                      refine Z_callVi (n := 121) [_, _] _ dX3_combine_118 rfl cwX3_133 rfl rfl (by first | rfl | exact nS0 (nA_at (by omega) (by omega))) (Nat.le_of_ble_eq_true rfl) (by refine ⟨?_, ?_, ?_, ?_⟩ <;> exact Nat.le_of_ble_eq_true rfl) (fun a h => by unfold kPub at h; unfold kGive; omega) (zX3_give  (by first | assumption | omega | decide) (by first | assumption | omega | decide) (by first | assumption | omega | decide) (by first | assumption | omega | decide)) ?_
                      intro x118 M118 J118 z118 f118 q118
                      obtain ⟨e118_1, h118⟩ := q118
                      replace e118_1 := e118_1.symm; subst e118_1
                      refine Z_fr (fun frR => ?_)
                      refine Z_iret dX3_combine_121 rfl ?_
                      refine ⟨rfl, cI_mk hc frR (pI_fr pi115 (f118 5 (by decide)).1 (f118 6 (by decide)).1 (f118 10 (by decide)).1 (f118 11 (by decide)).1) (ordOK_fr (show ordOK (uz M 0 8 0) from ordOK_fr hc.2.1 (uz_o (by decide))) (((f118 4 (by decide)).1).trans (f115 4 (by decide)).1)), fun q => ?_⟩
                      first
                        | (have := q f (by omega) (by omega); omega)
                        | (have := q g (by omega) (by omega); omega)
                        | (refine Or.inr (Or.inr (Or.inr ⟨by omega, by omega, by omega, ?_⟩))
                           rcases (show t = 1 ∨ t = 2 by omega) with e | e
                           · have := kn115.1 rfl rfl rfl e; omega
                           · have := kn115.2 rfl rfl rfl e; omega)
                  · refine Z_aload_n (n := 89) dX3_combine_88 rfl rfl ?_
                    refine Z_getA (n := 92) dX3_combine_89 rfl ffX3_29 (by first | rfl | exact nS0 (nA_at (by omega) (by omega))) (by first | rfl | exact nS0 (nA_at (by omega) (by omega))) ?_
                    refine Z_iload_n (n := 93) dX3_combine_92 rfl rfl ?_
                    refine Z_iald (n := 94) dX3_combine_93 rfl (by first | rfl | exact nS0 (nA_at (by omega) (by omega))) rfl (by first | decide | assumption) (by omega) (by omega) (fun r93 s93 => ?_)
                    try simp only [uz_oo (show (12 : Nat) ≠ 0 by decide)] at r93 s93 ⊢
                    refine Z_goto (t := 98) dX3_combine_94 (by decide) ?_
                    refine Z_iload (n := 100) dX3_combine_98 rfl rfl ?_
                    refine Z_if_eq (n := 103) (t := 113) dX3_combine_100 rfl (by decide) (fun c100 => ?_) (fun c100 => ?_)
                    · refine Z_iconst (n := 114) dX3_combine_113 rfl (by decide) ?_
                      refine Z_iconst (n := 115) dX3_combine_114 rfl (by decide) ?_
                      refine Z_callVi (n := 118) [_, _, _, _] _ dX3_combine_115 rfl cwX3_142 rfl rfl (by first | rfl | exact nS0 (nA_at (by omega) (by omega))) (Nat.le_of_ble_eq_true rfl) (by refine ⟨?_, ?_, ?_, ?_⟩ <;> exact Nat.le_of_ble_eq_true rfl) (fun a h => by unfold kPub at h; unfold kStep; omega) (zX3_kindStep  (by omega) (by omega) (by omega) (by omega) (by omega) (by omega) (by omega) (by omega) (by exact (show pI (uz M 0 8 0) from pI_fr hc.1 (uz_o (by decide)) (uz_o (by decide)) (uz_o (by decide)) (uz_o (by decide))))) ?_
                      intro x115 M115 J115 z115 f115 q115
                      obtain ⟨e115_1, l115, u115, pi115, kn115⟩ := q115
                      replace e115_1 := e115_1.symm; subst e115_1
                      refine Z_callVi (n := 121) [_, _] _ dX3_combine_118 rfl cwX3_133 rfl rfl (by first | rfl | exact nS0 (nA_at (by omega) (by omega))) (Nat.le_of_ble_eq_true rfl) (by refine ⟨?_, ?_, ?_, ?_⟩ <;> exact Nat.le_of_ble_eq_true rfl) (fun a h => by unfold kPub at h; unfold kGive; omega) (zX3_give  (by first | assumption | omega | decide) (by first | assumption | omega | decide) (by first | assumption | omega | decide) (by first | assumption | omega | decide)) ?_
                      intro x118 M118 J118 z118 f118 q118
                      obtain ⟨e118_1, h118⟩ := q118
                      replace e118_1 := e118_1.symm; subst e118_1
                      refine Z_fr (fun frR => ?_)
                      refine Z_iret dX3_combine_121 rfl ?_
                      refine ⟨rfl, cI_mk hc frR (pI_fr pi115 (f118 5 (by decide)).1 (f118 6 (by decide)).1 (f118 10 (by decide)).1 (f118 11 (by decide)).1) (ordOK_fr (show ordOK (uz M 0 8 0) from ordOK_fr hc.2.1 (uz_o (by decide))) (((f118 4 (by decide)).1).trans (f115 4 (by decide)).1)), fun q => ?_⟩
                      first
                        | (have := q f (by omega) (by omega); omega)
                        | (have := q g (by omega) (by omega); omega)
                        | (refine Or.inr (Or.inr (Or.inr ⟨by omega, by omega, by omega, ?_⟩))
                           rcases (show t = 1 ∨ t = 2 by omega) with e | e
                           · have := kn115.1 rfl rfl rfl e; omega
                           · have := kn115.2 rfl rfl rfl e; omega)
                    · refine Z_aload_n (n := 104) dX3_combine_103 rfl rfl ?_
                      refine Z_getA (n := 107) dX3_combine_104 rfl ffX3_29 (by first | rfl | exact nS0 (nA_at (by omega) (by omega))) (by first | rfl | exact nS0 (nA_at (by omega) (by omega))) ?_
                      refine Z_iload (n := 109) dX3_combine_107 rfl rfl ?_
                      refine Z_iald (n := 110) dX3_combine_109 rfl (by first | rfl | exact nS0 (nA_at (by omega) (by omega))) rfl (by first | decide | assumption) (by omega) (by omega) (fun r109 s109 => ?_)
                      try simp only [uz_oo (show (12 : Nat) ≠ 0 by decide)] at r109 s109 ⊢
                      refine Z_goto (t := 114) dX3_combine_110 (by decide) ?_
                      refine Z_iconst (n := 115) dX3_combine_114 rfl (by decide) ?_
                      refine Z_callVi (n := 118) [_, _, _, _] _ dX3_combine_115 rfl cwX3_142 rfl rfl (by first | rfl | exact nS0 (nA_at (by omega) (by omega))) (Nat.le_of_ble_eq_true rfl) (by refine ⟨?_, ?_, ?_, ?_⟩ <;> exact Nat.le_of_ble_eq_true rfl) (fun a h => by unfold kPub at h; unfold kStep; omega) (zX3_kindStep  (by omega) (by omega) (by omega) (by omega) (by omega) (by omega) (by omega) (by omega) (by exact (show pI (uz M 0 8 0) from pI_fr hc.1 (uz_o (by decide)) (uz_o (by decide)) (uz_o (by decide)) (uz_o (by decide))))) ?_
                      intro x115 M115 J115 z115 f115 q115
                      obtain ⟨e115_1, l115, u115, pi115, kn115⟩ := q115
                      replace e115_1 := e115_1.symm; subst e115_1
                      refine Z_callVi (n := 121) [_, _] _ dX3_combine_118 rfl cwX3_133 rfl rfl (by first | rfl | exact nS0 (nA_at (by omega) (by omega))) (Nat.le_of_ble_eq_true rfl) (by refine ⟨?_, ?_, ?_, ?_⟩ <;> exact Nat.le_of_ble_eq_true rfl) (fun a h => by unfold kPub at h; unfold kGive; omega) (zX3_give  (by first | assumption | omega | decide) (by first | assumption | omega | decide) (by first | assumption | omega | decide) (by first | assumption | omega | decide)) ?_
                      intro x118 M118 J118 z118 f118 q118
                      obtain ⟨e118_1, h118⟩ := q118
                      replace e118_1 := e118_1.symm; subst e118_1
                      refine Z_fr (fun frR => ?_)
                      refine Z_iret dX3_combine_121 rfl ?_
                      refine ⟨rfl, cI_mk hc frR (pI_fr pi115 (f118 5 (by decide)).1 (f118 6 (by decide)).1 (f118 10 (by decide)).1 (f118 11 (by decide)).1) (ordOK_fr (show ordOK (uz M 0 8 0) from ordOK_fr hc.2.1 (uz_o (by decide))) (((f118 4 (by decide)).1).trans (f115 4 (by decide)).1)), fun q => ?_⟩
                      first
                        | (have := q f (by omega) (by omega); omega)
                        | (have := q g (by omega) (by omega); omega)
                        | (refine Or.inr (Or.inr (Or.inr ⟨by omega, by omega, by omega, ?_⟩))
                           rcases (show t = 1 ∨ t = 2 by omega) with e | e
                           · have := kn115.1 rfl rfl rfl e; omega
                           · have := kn115.2 rfl rfl rfl e; omega)
                · refine Z_aload_n (n := 65) dX3_combine_64 rfl rfl ?_
                  refine Z_iload (n := 67) dX3_combine_65 rfl rfl ?_
                  refine Z_callVi (n := 70) [_] _ dX3_combine_67 rfl cwX3_139 rfl rfl (by first | rfl | exact nS0 (nA_at (by omega) (by omega))) (Nat.le_of_ble_eq_true rfl) (by refine ⟨?_, ?_, ?_, ?_⟩ <;> exact Nat.le_of_ble_eq_true rfl) (fun _ _ => trivial) (zX3_hasFunction  ) ?_
                  intro x67 M67 J67 z67 f67 q67
                  obtain ⟨e67_1, e67_2, h67⟩ := q67
                  replace e67_1 := e67_1.symm; subst e67_1
                  replace e67_2 := e67_2.symm; subst e67_2
                  refine Z_if_ne (n := 73) (t := 75) dX3_combine_70 rfl (by decide) (fun c70 => ?_) (fun c70 => ?_)
                  · refine Z_aload_n (n := 76) dX3_combine_75 rfl rfl ?_
                    refine Z_callVv (n := 79) [] _ dX3_combine_76 rfl cwX3_126 rfl rfl (by first | rfl | exact nS0 (nA_at (by omega) (by omega))) (Nat.le_of_ble_eq_true rfl) (by refine ⟨?_, ?_, ?_, ?_⟩ <;> exact Nat.le_of_ble_eq_true rfl) (fun _ h => h) (zX3_beginSteps  (by exact fun h => by unfold kPub at h; omega)) ?_
                    intro M76 J76 f76 q76
                    obtain ⟨e76_1, e76_2⟩ := q76
                    replace e76_1 := e76_1.symm; subst e76_1
                    replace e76_2 := e76_2.symm; subst e76_2
                    refine Z_aload_n (n := 80) dX3_combine_79 rfl rfl ?_
                    refine Z_iload_n (n := 81) dX3_combine_80 rfl rfl ?_
                    refine Z_aload_n (n := 82) dX3_combine_81 rfl rfl ?_
                    refine Z_iload_n (n := 83) dX3_combine_82 rfl rfl ?_
                    refine Z_iload (n := 85) dX3_combine_83 rfl rfl ?_
                    refine Z_if_eq (n := 88) (t := 97) dX3_combine_85 rfl (by decide) (fun c85 => ?_) (fun c85 => ?_)
                    · refine Z_iconst (n := 98) dX3_combine_97 rfl (by decide) ?_
                      refine Z_iload (n := 100) dX3_combine_98 rfl rfl ?_
                      refine Z_if_eq (n := 103) (t := 113) dX3_combine_100 rfl (by decide) (fun c100 => ?_) (fun c100 => ?_)
                      · refine Z_iconst (n := 114) dX3_combine_113 rfl (by decide) ?_
                        refine Z_iconst (n := 115) dX3_combine_114 rfl (by decide) ?_
                        refine Z_callVi (n := 118) [_, _, _, _] _ dX3_combine_115 rfl cwX3_142 rfl rfl (by first | rfl | exact nS0 (nA_at (by omega) (by omega))) (Nat.le_of_ble_eq_true rfl) (by refine ⟨?_, ?_, ?_, ?_⟩ <;> exact Nat.le_of_ble_eq_true rfl) (fun a h => by unfold kPub at h; unfold kStep; omega) (zX3_kindStep  (by omega) (by omega) (by omega) (by omega) (by omega) (by omega) (by omega) (by omega) (by exact (show pI (uz M 0 8 0) from pI_fr hc.1 (uz_o (by decide)) (uz_o (by decide)) (uz_o (by decide)) (uz_o (by decide))))) ?_
                        intro x115 M115 J115 z115 f115 q115
                        obtain ⟨e115_1, l115, u115, pi115, kn115⟩ := q115
                        replace e115_1 := e115_1.symm; subst e115_1
                        refine Z_callVi (n := 121) [_, _] _ dX3_combine_118 rfl cwX3_133 rfl rfl (by first | rfl | exact nS0 (nA_at (by omega) (by omega))) (Nat.le_of_ble_eq_true rfl) (by refine ⟨?_, ?_, ?_, ?_⟩ <;> exact Nat.le_of_ble_eq_true rfl) (fun a h => by unfold kPub at h; unfold kGive; omega) (zX3_give  (by first | assumption | omega | decide) (by first | assumption | omega | decide) (by first | assumption | omega | decide) (by first | assumption | omega | decide)) ?_
                        intro x118 M118 J118 z118 f118 q118
                        obtain ⟨e118_1, h118⟩ := q118
                        replace e118_1 := e118_1.symm; subst e118_1
                        refine Z_fr (fun frR => ?_)
                        refine Z_iret dX3_combine_121 rfl ?_
                        refine ⟨rfl, cI_mk hc frR (pI_fr pi115 (f118 5 (by decide)).1 (f118 6 (by decide)).1 (f118 10 (by decide)).1 (f118 11 (by decide)).1) (ordOK_fr (show ordOK (uz M 0 8 0) from ordOK_fr hc.2.1 (uz_o (by decide))) (((f118 4 (by decide)).1).trans (f115 4 (by decide)).1)), fun q => ?_⟩
                        first
                          | (have := q f (by omega) (by omega); omega)
                          | (have := q g (by omega) (by omega); omega)
                          | (refine Or.inr (Or.inr (Or.inr ⟨by omega, by omega, by omega, ?_⟩))
                             rcases (show t = 1 ∨ t = 2 by omega) with e | e
                             · have := kn115.1 rfl rfl rfl e; omega
                             · have := kn115.2 rfl rfl rfl e; omega)
                      · refine Z_aload_n (n := 104) dX3_combine_103 rfl rfl ?_
                        refine Z_getA (n := 107) dX3_combine_104 rfl ffX3_29 (by first | rfl | exact nS0 (nA_at (by omega) (by omega))) (by first | rfl | exact nS0 (nA_at (by omega) (by omega))) ?_
                        refine Z_iload (n := 109) dX3_combine_107 rfl rfl ?_
                        refine Z_iald (n := 110) dX3_combine_109 rfl (by first | rfl | exact nS0 (nA_at (by omega) (by omega))) rfl (by first | decide | assumption) (by omega) (by omega) (fun r109 s109 => ?_)
                        try simp only [uz_oo (show (12 : Nat) ≠ 0 by decide)] at r109 s109 ⊢
                        refine Z_goto (t := 114) dX3_combine_110 (by decide) ?_
                        refine Z_iconst (n := 115) dX3_combine_114 rfl (by decide) ?_
                        refine Z_callVi (n := 118) [_, _, _, _] _ dX3_combine_115 rfl cwX3_142 rfl rfl (by first | rfl | exact nS0 (nA_at (by omega) (by omega))) (Nat.le_of_ble_eq_true rfl) (by refine ⟨?_, ?_, ?_, ?_⟩ <;> exact Nat.le_of_ble_eq_true rfl) (fun a h => by unfold kPub at h; unfold kStep; omega) (zX3_kindStep  (by omega) (by omega) (by omega) (by omega) (by omega) (by omega) (by omega) (by omega) (by exact (show pI (uz M 0 8 0) from pI_fr hc.1 (uz_o (by decide)) (uz_o (by decide)) (uz_o (by decide)) (uz_o (by decide))))) ?_
                        intro x115 M115 J115 z115 f115 q115
                        obtain ⟨e115_1, l115, u115, pi115, kn115⟩ := q115
                        replace e115_1 := e115_1.symm; subst e115_1
                        refine Z_callVi (n := 121) [_, _] _ dX3_combine_118 rfl cwX3_133 rfl rfl (by first | rfl | exact nS0 (nA_at (by omega) (by omega))) (Nat.le_of_ble_eq_true rfl) (by refine ⟨?_, ?_, ?_, ?_⟩ <;> exact Nat.le_of_ble_eq_true rfl) (fun a h => by unfold kPub at h; unfold kGive; omega) (zX3_give  (by first | assumption | omega | decide) (by first | assumption | omega | decide) (by first | assumption | omega | decide) (by first | assumption | omega | decide)) ?_
                        intro x118 M118 J118 z118 f118 q118
                        obtain ⟨e118_1, h118⟩ := q118
                        replace e118_1 := e118_1.symm; subst e118_1
                        refine Z_fr (fun frR => ?_)
                        refine Z_iret dX3_combine_121 rfl ?_
                        refine ⟨rfl, cI_mk hc frR (pI_fr pi115 (f118 5 (by decide)).1 (f118 6 (by decide)).1 (f118 10 (by decide)).1 (f118 11 (by decide)).1) (ordOK_fr (show ordOK (uz M 0 8 0) from ordOK_fr hc.2.1 (uz_o (by decide))) (((f118 4 (by decide)).1).trans (f115 4 (by decide)).1)), fun q => ?_⟩
                        first
                          | (have := q f (by omega) (by omega); omega)
                          | (have := q g (by omega) (by omega); omega)
                          | (refine Or.inr (Or.inr (Or.inr ⟨by omega, by omega, by omega, ?_⟩))
                             rcases (show t = 1 ∨ t = 2 by omega) with e | e
                             · have := kn115.1 rfl rfl rfl e; omega
                             · have := kn115.2 rfl rfl rfl e; omega)
                    · refine Z_aload_n (n := 89) dX3_combine_88 rfl rfl ?_
                      refine Z_getA (n := 92) dX3_combine_89 rfl ffX3_29 (by first | rfl | exact nS0 (nA_at (by omega) (by omega))) (by first | rfl | exact nS0 (nA_at (by omega) (by omega))) ?_
                      refine Z_iload_n (n := 93) dX3_combine_92 rfl rfl ?_
                      refine Z_iald (n := 94) dX3_combine_93 rfl (by first | rfl | exact nS0 (nA_at (by omega) (by omega))) rfl (by first | decide | assumption) (by omega) (by omega) (fun r93 s93 => ?_)
                      try simp only [uz_oo (show (12 : Nat) ≠ 0 by decide)] at r93 s93 ⊢
                      refine Z_goto (t := 98) dX3_combine_94 (by decide) ?_
                      refine Z_iload (n := 100) dX3_combine_98 rfl rfl ?_
                      refine Z_if_eq (n := 103) (t := 113) dX3_combine_100 rfl (by decide) (fun c100 => ?_) (fun c100 => ?_)
                      · refine Z_iconst (n := 114) dX3_combine_113 rfl (by decide) ?_
                        refine Z_iconst (n := 115) dX3_combine_114 rfl (by decide) ?_
                        refine Z_callVi (n := 118) [_, _, _, _] _ dX3_combine_115 rfl cwX3_142 rfl rfl (by first | rfl | exact nS0 (nA_at (by omega) (by omega))) (Nat.le_of_ble_eq_true rfl) (by refine ⟨?_, ?_, ?_, ?_⟩ <;> exact Nat.le_of_ble_eq_true rfl) (fun a h => by unfold kPub at h; unfold kStep; omega) (zX3_kindStep  (by omega) (by omega) (by omega) (by omega) (by omega) (by omega) (by omega) (by omega) (by exact (show pI (uz M 0 8 0) from pI_fr hc.1 (uz_o (by decide)) (uz_o (by decide)) (uz_o (by decide)) (uz_o (by decide))))) ?_
                        intro x115 M115 J115 z115 f115 q115
                        obtain ⟨e115_1, l115, u115, pi115, kn115⟩ := q115
                        replace e115_1 := e115_1.symm; subst e115_1
                        refine Z_callVi (n := 121) [_, _] _ dX3_combine_118 rfl cwX3_133 rfl rfl (by first | rfl | exact nS0 (nA_at (by omega) (by omega))) (Nat.le_of_ble_eq_true rfl) (by refine ⟨?_, ?_, ?_, ?_⟩ <;> exact Nat.le_of_ble_eq_true rfl) (fun a h => by unfold kPub at h; unfold kGive; omega) (zX3_give  (by first | assumption | omega | decide) (by first | assumption | omega | decide) (by first | assumption | omega | decide) (by first | assumption | omega | decide)) ?_
                        intro x118 M118 J118 z118 f118 q118
                        obtain ⟨e118_1, h118⟩ := q118
                        replace e118_1 := e118_1.symm; subst e118_1
                        refine Z_fr (fun frR => ?_)
                        refine Z_iret dX3_combine_121 rfl ?_
                        refine ⟨rfl, cI_mk hc frR (pI_fr pi115 (f118 5 (by decide)).1 (f118 6 (by decide)).1 (f118 10 (by decide)).1 (f118 11 (by decide)).1) (ordOK_fr (show ordOK (uz M 0 8 0) from ordOK_fr hc.2.1 (uz_o (by decide))) (((f118 4 (by decide)).1).trans (f115 4 (by decide)).1)), fun q => ?_⟩
                        first
                          | (have := q f (by omega) (by omega); omega)
                          | (have := q g (by omega) (by omega); omega)
                          | (refine Or.inr (Or.inr (Or.inr ⟨by omega, by omega, by omega, ?_⟩))
                             rcases (show t = 1 ∨ t = 2 by omega) with e | e
                             · have := kn115.1 rfl rfl rfl e; omega
                             · have := kn115.2 rfl rfl rfl e; omega)
                      · refine Z_aload_n (n := 104) dX3_combine_103 rfl rfl ?_
                        refine Z_getA (n := 107) dX3_combine_104 rfl ffX3_29 (by first | rfl | exact nS0 (nA_at (by omega) (by omega))) (by first | rfl | exact nS0 (nA_at (by omega) (by omega))) ?_
                        refine Z_iload (n := 109) dX3_combine_107 rfl rfl ?_
                        refine Z_iald (n := 110) dX3_combine_109 rfl (by first | rfl | exact nS0 (nA_at (by omega) (by omega))) rfl (by first | decide | assumption) (by omega) (by omega) (fun r109 s109 => ?_)
                        try simp only [uz_oo (show (12 : Nat) ≠ 0 by decide)] at r109 s109 ⊢
                        refine Z_goto (t := 114) dX3_combine_110 (by decide) ?_
                        refine Z_iconst (n := 115) dX3_combine_114 rfl (by decide) ?_
                        refine Z_callVi (n := 118) [_, _, _, _] _ dX3_combine_115 rfl cwX3_142 rfl rfl (by first | rfl | exact nS0 (nA_at (by omega) (by omega))) (Nat.le_of_ble_eq_true rfl) (by refine ⟨?_, ?_, ?_, ?_⟩ <;> exact Nat.le_of_ble_eq_true rfl) (fun a h => by unfold kPub at h; unfold kStep; omega) (zX3_kindStep  (by omega) (by omega) (by omega) (by omega) (by omega) (by omega) (by omega) (by omega) (by exact (show pI (uz M 0 8 0) from pI_fr hc.1 (uz_o (by decide)) (uz_o (by decide)) (uz_o (by decide)) (uz_o (by decide))))) ?_
                        intro x115 M115 J115 z115 f115 q115
                        obtain ⟨e115_1, l115, u115, pi115, kn115⟩ := q115
                        replace e115_1 := e115_1.symm; subst e115_1
                        refine Z_callVi (n := 121) [_, _] _ dX3_combine_118 rfl cwX3_133 rfl rfl (by first | rfl | exact nS0 (nA_at (by omega) (by omega))) (Nat.le_of_ble_eq_true rfl) (by refine ⟨?_, ?_, ?_, ?_⟩ <;> exact Nat.le_of_ble_eq_true rfl) (fun a h => by unfold kPub at h; unfold kGive; omega) (zX3_give  (by first | assumption | omega | decide) (by first | assumption | omega | decide) (by first | assumption | omega | decide) (by first | assumption | omega | decide)) ?_
                        intro x118 M118 J118 z118 f118 q118
                        obtain ⟨e118_1, h118⟩ := q118
                        replace e118_1 := e118_1.symm; subst e118_1
                        refine Z_fr (fun frR => ?_)
                        refine Z_iret dX3_combine_121 rfl ?_
                        refine ⟨rfl, cI_mk hc frR (pI_fr pi115 (f118 5 (by decide)).1 (f118 6 (by decide)).1 (f118 10 (by decide)).1 (f118 11 (by decide)).1) (ordOK_fr (show ordOK (uz M 0 8 0) from ordOK_fr hc.2.1 (uz_o (by decide))) (((f118 4 (by decide)).1).trans (f115 4 (by decide)).1)), fun q => ?_⟩
                        first
                          | (have := q f (by omega) (by omega); omega)
                          | (have := q g (by omega) (by omega); omega)
                          | (refine Or.inr (Or.inr (Or.inr ⟨by omega, by omega, by omega, ?_⟩))
                             rcases (show t = 1 ∨ t = 2 by omega) with e | e
                             · have := kn115.1 rfl rfl rfl e; omega
                             · have := kn115.2 rfl rfl rfl e; omega)
                  · refine Z_iconst (n := 74) dX3_combine_73 rfl (by decide) ?_
                    refine Z_iret dX3_combine_74 rfl ?_
                    exact ⟨rfl, hc, fun _ => Or.inr (Or.inr (Or.inl ⟨by omega, by omega, by omega, by omega, rfl⟩))⟩
          · refine Z_iconst (n := 40) dX3_combine_39 rfl (by decide) ?_
            refine Z_goto (t := 44) dX3_combine_40 (by decide) ?_
            refine Z_istore (L' := [_, _, _, _, _, _, _]) (n := 46) dX3_combine_44 rfl (by decide) rfl rfl ?_
            refine Z_iload (n := 48) dX3_combine_46 rfl rfl ?_
            refine Z_if_eq (n := 51) (t := 59) dX3_combine_48 rfl (by decide) (fun c48 => ?_) (fun c48 => ?_)
            · refine Z_iload (n := 61) dX3_combine_59 rfl rfl ?_
              refine Z_if_eq (n := 64) (t := 75) dX3_combine_61 rfl (by decide) (fun c61 => ?_) (fun c61 => ?_)
              · refine Z_aload_n (n := 76) dX3_combine_75 rfl rfl ?_
                refine Z_callVv (n := 79) [] _ dX3_combine_76 rfl cwX3_126 rfl rfl (by first | rfl | exact nS0 (nA_at (by omega) (by omega))) (Nat.le_of_ble_eq_true rfl) (by refine ⟨?_, ?_, ?_, ?_⟩ <;> exact Nat.le_of_ble_eq_true rfl) (fun _ h => h) (zX3_beginSteps  (by exact fun h => by unfold kPub at h; omega)) ?_
                intro M76 J76 f76 q76
                obtain ⟨e76_1, e76_2⟩ := q76
                replace e76_1 := e76_1.symm; subst e76_1
                replace e76_2 := e76_2.symm; subst e76_2
                refine Z_aload_n (n := 80) dX3_combine_79 rfl rfl ?_
                refine Z_iload_n (n := 81) dX3_combine_80 rfl rfl ?_
                refine Z_aload_n (n := 82) dX3_combine_81 rfl rfl ?_
                refine Z_iload_n (n := 83) dX3_combine_82 rfl rfl ?_
                refine Z_iload (n := 85) dX3_combine_83 rfl rfl ?_
                refine Z_if_eq (n := 88) (t := 97) dX3_combine_85 rfl (by decide) (fun c85 => ?_) (fun c85 => ?_)
                · refine Z_iconst (n := 98) dX3_combine_97 rfl (by decide) ?_
                  refine Z_iload (n := 100) dX3_combine_98 rfl rfl ?_
                  refine Z_if_eq (n := 103) (t := 113) dX3_combine_100 rfl (by decide) (fun c100 => ?_) (fun c100 => ?_)
                  · refine Z_iconst (n := 114) dX3_combine_113 rfl (by decide) ?_
                    refine Z_iconst (n := 115) dX3_combine_114 rfl (by decide) ?_
                    refine Z_callVi (n := 118) [_, _, _, _] _ dX3_combine_115 rfl cwX3_142 rfl rfl (by first | rfl | exact nS0 (nA_at (by omega) (by omega))) (Nat.le_of_ble_eq_true rfl) (by refine ⟨?_, ?_, ?_, ?_⟩ <;> exact Nat.le_of_ble_eq_true rfl) (fun a h => by unfold kPub at h; unfold kStep; omega) (zX3_kindStep  (by omega) (by omega) (by omega) (by omega) (by omega) (by omega) (by omega) (by omega) (by exact (show pI (uz M 0 8 0) from pI_fr hc.1 (uz_o (by decide)) (uz_o (by decide)) (uz_o (by decide)) (uz_o (by decide))))) ?_
                    intro x115 M115 J115 z115 f115 q115
                    obtain ⟨e115_1, l115, u115, pi115, kn115⟩ := q115
                    replace e115_1 := e115_1.symm; subst e115_1
                    refine Z_callVi (n := 121) [_, _] _ dX3_combine_118 rfl cwX3_133 rfl rfl (by first | rfl | exact nS0 (nA_at (by omega) (by omega))) (Nat.le_of_ble_eq_true rfl) (by refine ⟨?_, ?_, ?_, ?_⟩ <;> exact Nat.le_of_ble_eq_true rfl) (fun a h => by unfold kPub at h; unfold kGive; omega) (zX3_give  (by first | assumption | omega | decide) (by first | assumption | omega | decide) (by first | assumption | omega | decide) (by first | assumption | omega | decide)) ?_
                    intro x118 M118 J118 z118 f118 q118
                    obtain ⟨e118_1, h118⟩ := q118
                    replace e118_1 := e118_1.symm; subst e118_1
                    refine Z_fr (fun frR => ?_)
                    refine Z_iret dX3_combine_121 rfl ?_
                    refine ⟨rfl, cI_mk hc frR (pI_fr pi115 (f118 5 (by decide)).1 (f118 6 (by decide)).1 (f118 10 (by decide)).1 (f118 11 (by decide)).1) (ordOK_fr (show ordOK (uz M 0 8 0) from ordOK_fr hc.2.1 (uz_o (by decide))) (((f118 4 (by decide)).1).trans (f115 4 (by decide)).1)), fun q => ?_⟩
                    first
                      | (have := q f (by omega) (by omega); omega)
                      | (have := q g (by omega) (by omega); omega)
                      | (refine Or.inr (Or.inr (Or.inr ⟨by omega, by omega, by omega, ?_⟩))
                         rcases (show t = 1 ∨ t = 2 by omega) with e | e
                         · have := kn115.1 rfl rfl rfl e; omega
                         · have := kn115.2 rfl rfl rfl e; omega)
                  · refine Z_aload_n (n := 104) dX3_combine_103 rfl rfl ?_
                    refine Z_getA (n := 107) dX3_combine_104 rfl ffX3_29 (by first | rfl | exact nS0 (nA_at (by omega) (by omega))) (by first | rfl | exact nS0 (nA_at (by omega) (by omega))) ?_
                    refine Z_iload (n := 109) dX3_combine_107 rfl rfl ?_
                    refine Z_iald (n := 110) dX3_combine_109 rfl (by first | rfl | exact nS0 (nA_at (by omega) (by omega))) rfl (by first | decide | assumption) (by omega) (by omega) (fun r109 s109 => ?_)
                    try simp only [uz_oo (show (12 : Nat) ≠ 0 by decide)] at r109 s109 ⊢
                    refine Z_goto (t := 114) dX3_combine_110 (by decide) ?_
                    refine Z_iconst (n := 115) dX3_combine_114 rfl (by decide) ?_
                    refine Z_callVi (n := 118) [_, _, _, _] _ dX3_combine_115 rfl cwX3_142 rfl rfl (by first | rfl | exact nS0 (nA_at (by omega) (by omega))) (Nat.le_of_ble_eq_true rfl) (by refine ⟨?_, ?_, ?_, ?_⟩ <;> exact Nat.le_of_ble_eq_true rfl) (fun a h => by unfold kPub at h; unfold kStep; omega) (zX3_kindStep  (by omega) (by omega) (by omega) (by omega) (by omega) (by omega) (by omega) (by omega) (by exact (show pI (uz M 0 8 0) from pI_fr hc.1 (uz_o (by decide)) (uz_o (by decide)) (uz_o (by decide)) (uz_o (by decide))))) ?_
                    intro x115 M115 J115 z115 f115 q115
                    obtain ⟨e115_1, l115, u115, pi115, kn115⟩ := q115
                    replace e115_1 := e115_1.symm; subst e115_1
                    refine Z_callVi (n := 121) [_, _] _ dX3_combine_118 rfl cwX3_133 rfl rfl (by first | rfl | exact nS0 (nA_at (by omega) (by omega))) (Nat.le_of_ble_eq_true rfl) (by refine ⟨?_, ?_, ?_, ?_⟩ <;> exact Nat.le_of_ble_eq_true rfl) (fun a h => by unfold kPub at h; unfold kGive; omega) (zX3_give  (by first | assumption | omega | decide) (by first | assumption | omega | decide) (by first | assumption | omega | decide) (by first | assumption | omega | decide)) ?_
                    intro x118 M118 J118 z118 f118 q118
                    obtain ⟨e118_1, h118⟩ := q118
                    replace e118_1 := e118_1.symm; subst e118_1
                    refine Z_fr (fun frR => ?_)
                    refine Z_iret dX3_combine_121 rfl ?_
                    refine ⟨rfl, cI_mk hc frR (pI_fr pi115 (f118 5 (by decide)).1 (f118 6 (by decide)).1 (f118 10 (by decide)).1 (f118 11 (by decide)).1) (ordOK_fr (show ordOK (uz M 0 8 0) from ordOK_fr hc.2.1 (uz_o (by decide))) (((f118 4 (by decide)).1).trans (f115 4 (by decide)).1)), fun q => ?_⟩
                    first
                      | (have := q f (by omega) (by omega); omega)
                      | (have := q g (by omega) (by omega); omega)
                      | (refine Or.inr (Or.inr (Or.inr ⟨by omega, by omega, by omega, ?_⟩))
                         rcases (show t = 1 ∨ t = 2 by omega) with e | e
                         · have := kn115.1 rfl rfl rfl e; omega
                         · have := kn115.2 rfl rfl rfl e; omega)
                · refine Z_aload_n (n := 89) dX3_combine_88 rfl rfl ?_
                  refine Z_getA (n := 92) dX3_combine_89 rfl ffX3_29 (by first | rfl | exact nS0 (nA_at (by omega) (by omega))) (by first | rfl | exact nS0 (nA_at (by omega) (by omega))) ?_
                  refine Z_iload_n (n := 93) dX3_combine_92 rfl rfl ?_
                  refine Z_iald (n := 94) dX3_combine_93 rfl (by first | rfl | exact nS0 (nA_at (by omega) (by omega))) rfl (by first | decide | assumption) (by omega) (by omega) (fun r93 s93 => ?_)
                  try simp only [uz_oo (show (12 : Nat) ≠ 0 by decide)] at r93 s93 ⊢
                  refine Z_goto (t := 98) dX3_combine_94 (by decide) ?_
                  refine Z_iload (n := 100) dX3_combine_98 rfl rfl ?_
                  refine Z_if_eq (n := 103) (t := 113) dX3_combine_100 rfl (by decide) (fun c100 => ?_) (fun c100 => ?_)
                  · refine Z_iconst (n := 114) dX3_combine_113 rfl (by decide) ?_
                    refine Z_iconst (n := 115) dX3_combine_114 rfl (by decide) ?_
                    refine Z_callVi (n := 118) [_, _, _, _] _ dX3_combine_115 rfl cwX3_142 rfl rfl (by first | rfl | exact nS0 (nA_at (by omega) (by omega))) (Nat.le_of_ble_eq_true rfl) (by refine ⟨?_, ?_, ?_, ?_⟩ <;> exact Nat.le_of_ble_eq_true rfl) (fun a h => by unfold kPub at h; unfold kStep; omega) (zX3_kindStep  (by omega) (by omega) (by omega) (by omega) (by omega) (by omega) (by omega) (by omega) (by exact (show pI (uz M 0 8 0) from pI_fr hc.1 (uz_o (by decide)) (uz_o (by decide)) (uz_o (by decide)) (uz_o (by decide))))) ?_
                    intro x115 M115 J115 z115 f115 q115
                    obtain ⟨e115_1, l115, u115, pi115, kn115⟩ := q115
                    replace e115_1 := e115_1.symm; subst e115_1
                    refine Z_callVi (n := 121) [_, _] _ dX3_combine_118 rfl cwX3_133 rfl rfl (by first | rfl | exact nS0 (nA_at (by omega) (by omega))) (Nat.le_of_ble_eq_true rfl) (by refine ⟨?_, ?_, ?_, ?_⟩ <;> exact Nat.le_of_ble_eq_true rfl) (fun a h => by unfold kPub at h; unfold kGive; omega) (zX3_give  (by first | assumption | omega | decide) (by first | assumption | omega | decide) (by first | assumption | omega | decide) (by first | assumption | omega | decide)) ?_
                    intro x118 M118 J118 z118 f118 q118
                    obtain ⟨e118_1, h118⟩ := q118
                    replace e118_1 := e118_1.symm; subst e118_1
                    refine Z_fr (fun frR => ?_)
                    refine Z_iret dX3_combine_121 rfl ?_
                    refine ⟨rfl, cI_mk hc frR (pI_fr pi115 (f118 5 (by decide)).1 (f118 6 (by decide)).1 (f118 10 (by decide)).1 (f118 11 (by decide)).1) (ordOK_fr (show ordOK (uz M 0 8 0) from ordOK_fr hc.2.1 (uz_o (by decide))) (((f118 4 (by decide)).1).trans (f115 4 (by decide)).1)), fun q => ?_⟩
                    first
                      | (have := q f (by omega) (by omega); omega)
                      | (have := q g (by omega) (by omega); omega)
                      | (refine Or.inr (Or.inr (Or.inr ⟨by omega, by omega, by omega, ?_⟩))
                         rcases (show t = 1 ∨ t = 2 by omega) with e | e
                         · have := kn115.1 rfl rfl rfl e; omega
                         · have := kn115.2 rfl rfl rfl e; omega)
                  · refine Z_aload_n (n := 104) dX3_combine_103 rfl rfl ?_
                    refine Z_getA (n := 107) dX3_combine_104 rfl ffX3_29 (by first | rfl | exact nS0 (nA_at (by omega) (by omega))) (by first | rfl | exact nS0 (nA_at (by omega) (by omega))) ?_
                    refine Z_iload (n := 109) dX3_combine_107 rfl rfl ?_
                    refine Z_iald (n := 110) dX3_combine_109 rfl (by first | rfl | exact nS0 (nA_at (by omega) (by omega))) rfl (by first | decide | assumption) (by omega) (by omega) (fun r109 s109 => ?_)
                    try simp only [uz_oo (show (12 : Nat) ≠ 0 by decide)] at r109 s109 ⊢
                    refine Z_goto (t := 114) dX3_combine_110 (by decide) ?_
                    refine Z_iconst (n := 115) dX3_combine_114 rfl (by decide) ?_
                    refine Z_callVi (n := 118) [_, _, _, _] _ dX3_combine_115 rfl cwX3_142 rfl rfl (by first | rfl | exact nS0 (nA_at (by omega) (by omega))) (Nat.le_of_ble_eq_true rfl) (by refine ⟨?_, ?_, ?_, ?_⟩ <;> exact Nat.le_of_ble_eq_true rfl) (fun a h => by unfold kPub at h; unfold kStep; omega) (zX3_kindStep  (by omega) (by omega) (by omega) (by omega) (by omega) (by omega) (by omega) (by omega) (by exact (show pI (uz M 0 8 0) from pI_fr hc.1 (uz_o (by decide)) (uz_o (by decide)) (uz_o (by decide)) (uz_o (by decide))))) ?_
                    intro x115 M115 J115 z115 f115 q115
                    obtain ⟨e115_1, l115, u115, pi115, kn115⟩ := q115
                    replace e115_1 := e115_1.symm; subst e115_1
                    refine Z_callVi (n := 121) [_, _] _ dX3_combine_118 rfl cwX3_133 rfl rfl (by first | rfl | exact nS0 (nA_at (by omega) (by omega))) (Nat.le_of_ble_eq_true rfl) (by refine ⟨?_, ?_, ?_, ?_⟩ <;> exact Nat.le_of_ble_eq_true rfl) (fun a h => by unfold kPub at h; unfold kGive; omega) (zX3_give  (by first | assumption | omega | decide) (by first | assumption | omega | decide) (by first | assumption | omega | decide) (by first | assumption | omega | decide)) ?_
                    intro x118 M118 J118 z118 f118 q118
                    obtain ⟨e118_1, h118⟩ := q118
                    replace e118_1 := e118_1.symm; subst e118_1
                    refine Z_fr (fun frR => ?_)
                    refine Z_iret dX3_combine_121 rfl ?_
                    refine ⟨rfl, cI_mk hc frR (pI_fr pi115 (f118 5 (by decide)).1 (f118 6 (by decide)).1 (f118 10 (by decide)).1 (f118 11 (by decide)).1) (ordOK_fr (show ordOK (uz M 0 8 0) from ordOK_fr hc.2.1 (uz_o (by decide))) (((f118 4 (by decide)).1).trans (f115 4 (by decide)).1)), fun q => ?_⟩
                    first
                      | (have := q f (by omega) (by omega); omega)
                      | (have := q g (by omega) (by omega); omega)
                      | (refine Or.inr (Or.inr (Or.inr ⟨by omega, by omega, by omega, ?_⟩))
                         rcases (show t = 1 ∨ t = 2 by omega) with e | e
                         · have := kn115.1 rfl rfl rfl e; omega
                         · have := kn115.2 rfl rfl rfl e; omega)
              · refine Z_aload_n (n := 65) dX3_combine_64 rfl rfl ?_
                refine Z_iload (n := 67) dX3_combine_65 rfl rfl ?_
                refine Z_callVi (n := 70) [_] _ dX3_combine_67 rfl cwX3_139 rfl rfl (by first | rfl | exact nS0 (nA_at (by omega) (by omega))) (Nat.le_of_ble_eq_true rfl) (by refine ⟨?_, ?_, ?_, ?_⟩ <;> exact Nat.le_of_ble_eq_true rfl) (fun _ _ => trivial) (zX3_hasFunction  ) ?_
                intro x67 M67 J67 z67 f67 q67
                obtain ⟨e67_1, e67_2, h67⟩ := q67
                replace e67_1 := e67_1.symm; subst e67_1
                replace e67_2 := e67_2.symm; subst e67_2
                refine Z_if_ne (n := 73) (t := 75) dX3_combine_70 rfl (by decide) (fun c70 => ?_) (fun c70 => ?_)
                · refine Z_aload_n (n := 76) dX3_combine_75 rfl rfl ?_
                  refine Z_callVv (n := 79) [] _ dX3_combine_76 rfl cwX3_126 rfl rfl (by first | rfl | exact nS0 (nA_at (by omega) (by omega))) (Nat.le_of_ble_eq_true rfl) (by refine ⟨?_, ?_, ?_, ?_⟩ <;> exact Nat.le_of_ble_eq_true rfl) (fun _ h => h) (zX3_beginSteps  (by exact fun h => by unfold kPub at h; omega)) ?_
                  intro M76 J76 f76 q76
                  obtain ⟨e76_1, e76_2⟩ := q76
                  replace e76_1 := e76_1.symm; subst e76_1
                  replace e76_2 := e76_2.symm; subst e76_2
                  refine Z_aload_n (n := 80) dX3_combine_79 rfl rfl ?_
                  refine Z_iload_n (n := 81) dX3_combine_80 rfl rfl ?_
                  refine Z_aload_n (n := 82) dX3_combine_81 rfl rfl ?_
                  refine Z_iload_n (n := 83) dX3_combine_82 rfl rfl ?_
                  refine Z_iload (n := 85) dX3_combine_83 rfl rfl ?_
                  refine Z_if_eq (n := 88) (t := 97) dX3_combine_85 rfl (by decide) (fun c85 => ?_) (fun c85 => ?_)
                  · refine Z_iconst (n := 98) dX3_combine_97 rfl (by decide) ?_
                    refine Z_iload (n := 100) dX3_combine_98 rfl rfl ?_
                    refine Z_if_eq (n := 103) (t := 113) dX3_combine_100 rfl (by decide) (fun c100 => ?_) (fun c100 => ?_)
                    · refine Z_iconst (n := 114) dX3_combine_113 rfl (by decide) ?_
                      refine Z_iconst (n := 115) dX3_combine_114 rfl (by decide) ?_
                      refine Z_callVi (n := 118) [_, _, _, _] _ dX3_combine_115 rfl cwX3_142 rfl rfl (by first | rfl | exact nS0 (nA_at (by omega) (by omega))) (Nat.le_of_ble_eq_true rfl) (by refine ⟨?_, ?_, ?_, ?_⟩ <;> exact Nat.le_of_ble_eq_true rfl) (fun a h => by unfold kPub at h; unfold kStep; omega) (zX3_kindStep  (by omega) (by omega) (by omega) (by omega) (by omega) (by omega) (by omega) (by omega) (by exact (show pI (uz M 0 8 0) from pI_fr hc.1 (uz_o (by decide)) (uz_o (by decide)) (uz_o (by decide)) (uz_o (by decide))))) ?_
                      intro x115 M115 J115 z115 f115 q115
                      obtain ⟨e115_1, l115, u115, pi115, kn115⟩ := q115
                      replace e115_1 := e115_1.symm; subst e115_1
                      refine Z_callVi (n := 121) [_, _] _ dX3_combine_118 rfl cwX3_133 rfl rfl (by first | rfl | exact nS0 (nA_at (by omega) (by omega))) (Nat.le_of_ble_eq_true rfl) (by refine ⟨?_, ?_, ?_, ?_⟩ <;> exact Nat.le_of_ble_eq_true rfl) (fun a h => by unfold kPub at h; unfold kGive; omega) (zX3_give  (by first | assumption | omega | decide) (by first | assumption | omega | decide) (by first | assumption | omega | decide) (by first | assumption | omega | decide)) ?_
                      intro x118 M118 J118 z118 f118 q118
                      obtain ⟨e118_1, h118⟩ := q118
                      replace e118_1 := e118_1.symm; subst e118_1
                      refine Z_fr (fun frR => ?_)
                      refine Z_iret dX3_combine_121 rfl ?_
                      refine ⟨rfl, cI_mk hc frR (pI_fr pi115 (f118 5 (by decide)).1 (f118 6 (by decide)).1 (f118 10 (by decide)).1 (f118 11 (by decide)).1) (ordOK_fr (show ordOK (uz M 0 8 0) from ordOK_fr hc.2.1 (uz_o (by decide))) (((f118 4 (by decide)).1).trans (f115 4 (by decide)).1)), fun q => ?_⟩
                      first
                        | (have := q f (by omega) (by omega); omega)
                        | (have := q g (by omega) (by omega); omega)
                        | (refine Or.inr (Or.inr (Or.inr ⟨by omega, by omega, by omega, ?_⟩))
                           rcases (show t = 1 ∨ t = 2 by omega) with e | e
                           · have := kn115.1 rfl rfl rfl e; omega
                           · have := kn115.2 rfl rfl rfl e; omega)
                    · refine Z_aload_n (n := 104) dX3_combine_103 rfl rfl ?_
                      refine Z_getA (n := 107) dX3_combine_104 rfl ffX3_29 (by first | rfl | exact nS0 (nA_at (by omega) (by omega))) (by first | rfl | exact nS0 (nA_at (by omega) (by omega))) ?_
                      refine Z_iload (n := 109) dX3_combine_107 rfl rfl ?_
                      refine Z_iald (n := 110) dX3_combine_109 rfl (by first | rfl | exact nS0 (nA_at (by omega) (by omega))) rfl (by first | decide | assumption) (by omega) (by omega) (fun r109 s109 => ?_)
                      try simp only [uz_oo (show (12 : Nat) ≠ 0 by decide)] at r109 s109 ⊢
                      refine Z_goto (t := 114) dX3_combine_110 (by decide) ?_
                      refine Z_iconst (n := 115) dX3_combine_114 rfl (by decide) ?_
                      refine Z_callVi (n := 118) [_, _, _, _] _ dX3_combine_115 rfl cwX3_142 rfl rfl (by first | rfl | exact nS0 (nA_at (by omega) (by omega))) (Nat.le_of_ble_eq_true rfl) (by refine ⟨?_, ?_, ?_, ?_⟩ <;> exact Nat.le_of_ble_eq_true rfl) (fun a h => by unfold kPub at h; unfold kStep; omega) (zX3_kindStep  (by omega) (by omega) (by omega) (by omega) (by omega) (by omega) (by omega) (by omega) (by exact (show pI (uz M 0 8 0) from pI_fr hc.1 (uz_o (by decide)) (uz_o (by decide)) (uz_o (by decide)) (uz_o (by decide))))) ?_
                      intro x115 M115 J115 z115 f115 q115
                      obtain ⟨e115_1, l115, u115, pi115, kn115⟩ := q115
                      replace e115_1 := e115_1.symm; subst e115_1
                      refine Z_callVi (n := 121) [_, _] _ dX3_combine_118 rfl cwX3_133 rfl rfl (by first | rfl | exact nS0 (nA_at (by omega) (by omega))) (Nat.le_of_ble_eq_true rfl) (by refine ⟨?_, ?_, ?_, ?_⟩ <;> exact Nat.le_of_ble_eq_true rfl) (fun a h => by unfold kPub at h; unfold kGive; omega) (zX3_give  (by first | assumption | omega | decide) (by first | assumption | omega | decide) (by first | assumption | omega | decide) (by first | assumption | omega | decide)) ?_
                      intro x118 M118 J118 z118 f118 q118
                      obtain ⟨e118_1, h118⟩ := q118
                      replace e118_1 := e118_1.symm; subst e118_1
                      refine Z_fr (fun frR => ?_)
                      refine Z_iret dX3_combine_121 rfl ?_
                      refine ⟨rfl, cI_mk hc frR (pI_fr pi115 (f118 5 (by decide)).1 (f118 6 (by decide)).1 (f118 10 (by decide)).1 (f118 11 (by decide)).1) (ordOK_fr (show ordOK (uz M 0 8 0) from ordOK_fr hc.2.1 (uz_o (by decide))) (((f118 4 (by decide)).1).trans (f115 4 (by decide)).1)), fun q => ?_⟩
                      first
                        | (have := q f (by omega) (by omega); omega)
                        | (have := q g (by omega) (by omega); omega)
                        | (refine Or.inr (Or.inr (Or.inr ⟨by omega, by omega, by omega, ?_⟩))
                           rcases (show t = 1 ∨ t = 2 by omega) with e | e
                           · have := kn115.1 rfl rfl rfl e; omega
                           · have := kn115.2 rfl rfl rfl e; omega)
                  · refine Z_aload_n (n := 89) dX3_combine_88 rfl rfl ?_
                    refine Z_getA (n := 92) dX3_combine_89 rfl ffX3_29 (by first | rfl | exact nS0 (nA_at (by omega) (by omega))) (by first | rfl | exact nS0 (nA_at (by omega) (by omega))) ?_
                    refine Z_iload_n (n := 93) dX3_combine_92 rfl rfl ?_
                    refine Z_iald (n := 94) dX3_combine_93 rfl (by first | rfl | exact nS0 (nA_at (by omega) (by omega))) rfl (by first | decide | assumption) (by omega) (by omega) (fun r93 s93 => ?_)
                    try simp only [uz_oo (show (12 : Nat) ≠ 0 by decide)] at r93 s93 ⊢
                    refine Z_goto (t := 98) dX3_combine_94 (by decide) ?_
                    refine Z_iload (n := 100) dX3_combine_98 rfl rfl ?_
                    refine Z_if_eq (n := 103) (t := 113) dX3_combine_100 rfl (by decide) (fun c100 => ?_) (fun c100 => ?_)
                    · refine Z_iconst (n := 114) dX3_combine_113 rfl (by decide) ?_
                      refine Z_iconst (n := 115) dX3_combine_114 rfl (by decide) ?_
                      refine Z_callVi (n := 118) [_, _, _, _] _ dX3_combine_115 rfl cwX3_142 rfl rfl (by first | rfl | exact nS0 (nA_at (by omega) (by omega))) (Nat.le_of_ble_eq_true rfl) (by refine ⟨?_, ?_, ?_, ?_⟩ <;> exact Nat.le_of_ble_eq_true rfl) (fun a h => by unfold kPub at h; unfold kStep; omega) (zX3_kindStep  (by omega) (by omega) (by omega) (by omega) (by omega) (by omega) (by omega) (by omega) (by exact (show pI (uz M 0 8 0) from pI_fr hc.1 (uz_o (by decide)) (uz_o (by decide)) (uz_o (by decide)) (uz_o (by decide))))) ?_
                      intro x115 M115 J115 z115 f115 q115
                      obtain ⟨e115_1, l115, u115, pi115, kn115⟩ := q115
                      replace e115_1 := e115_1.symm; subst e115_1
                      refine Z_callVi (n := 121) [_, _] _ dX3_combine_118 rfl cwX3_133 rfl rfl (by first | rfl | exact nS0 (nA_at (by omega) (by omega))) (Nat.le_of_ble_eq_true rfl) (by refine ⟨?_, ?_, ?_, ?_⟩ <;> exact Nat.le_of_ble_eq_true rfl) (fun a h => by unfold kPub at h; unfold kGive; omega) (zX3_give  (by first | assumption | omega | decide) (by first | assumption | omega | decide) (by first | assumption | omega | decide) (by first | assumption | omega | decide)) ?_
                      intro x118 M118 J118 z118 f118 q118
                      obtain ⟨e118_1, h118⟩ := q118
                      replace e118_1 := e118_1.symm; subst e118_1
                      refine Z_fr (fun frR => ?_)
                      refine Z_iret dX3_combine_121 rfl ?_
                      refine ⟨rfl, cI_mk hc frR (pI_fr pi115 (f118 5 (by decide)).1 (f118 6 (by decide)).1 (f118 10 (by decide)).1 (f118 11 (by decide)).1) (ordOK_fr (show ordOK (uz M 0 8 0) from ordOK_fr hc.2.1 (uz_o (by decide))) (((f118 4 (by decide)).1).trans (f115 4 (by decide)).1)), fun q => ?_⟩
                      first
                        | (have := q f (by omega) (by omega); omega)
                        | (have := q g (by omega) (by omega); omega)
                        | (refine Or.inr (Or.inr (Or.inr ⟨by omega, by omega, by omega, ?_⟩))
                           rcases (show t = 1 ∨ t = 2 by omega) with e | e
                           · have := kn115.1 rfl rfl rfl e; omega
                           · have := kn115.2 rfl rfl rfl e; omega)
                    · refine Z_aload_n (n := 104) dX3_combine_103 rfl rfl ?_
                      refine Z_getA (n := 107) dX3_combine_104 rfl ffX3_29 (by first | rfl | exact nS0 (nA_at (by omega) (by omega))) (by first | rfl | exact nS0 (nA_at (by omega) (by omega))) ?_
                      refine Z_iload (n := 109) dX3_combine_107 rfl rfl ?_
                      refine Z_iald (n := 110) dX3_combine_109 rfl (by first | rfl | exact nS0 (nA_at (by omega) (by omega))) rfl (by first | decide | assumption) (by omega) (by omega) (fun r109 s109 => ?_)
                      try simp only [uz_oo (show (12 : Nat) ≠ 0 by decide)] at r109 s109 ⊢
                      refine Z_goto (t := 114) dX3_combine_110 (by decide) ?_
                      refine Z_iconst (n := 115) dX3_combine_114 rfl (by decide) ?_
                      refine Z_callVi (n := 118) [_, _, _, _] _ dX3_combine_115 rfl cwX3_142 rfl rfl (by first | rfl | exact nS0 (nA_at (by omega) (by omega))) (Nat.le_of_ble_eq_true rfl) (by refine ⟨?_, ?_, ?_, ?_⟩ <;> exact Nat.le_of_ble_eq_true rfl) (fun a h => by unfold kPub at h; unfold kStep; omega) (zX3_kindStep  (by omega) (by omega) (by omega) (by omega) (by omega) (by omega) (by omega) (by omega) (by exact (show pI (uz M 0 8 0) from pI_fr hc.1 (uz_o (by decide)) (uz_o (by decide)) (uz_o (by decide)) (uz_o (by decide))))) ?_
                      intro x115 M115 J115 z115 f115 q115
                      obtain ⟨e115_1, l115, u115, pi115, kn115⟩ := q115
                      replace e115_1 := e115_1.symm; subst e115_1
                      refine Z_callVi (n := 121) [_, _] _ dX3_combine_118 rfl cwX3_133 rfl rfl (by first | rfl | exact nS0 (nA_at (by omega) (by omega))) (Nat.le_of_ble_eq_true rfl) (by refine ⟨?_, ?_, ?_, ?_⟩ <;> exact Nat.le_of_ble_eq_true rfl) (fun a h => by unfold kPub at h; unfold kGive; omega) (zX3_give  (by first | assumption | omega | decide) (by first | assumption | omega | decide) (by first | assumption | omega | decide) (by first | assumption | omega | decide)) ?_
                      intro x118 M118 J118 z118 f118 q118
                      obtain ⟨e118_1, h118⟩ := q118
                      replace e118_1 := e118_1.symm; subst e118_1
                      refine Z_fr (fun frR => ?_)
                      refine Z_iret dX3_combine_121 rfl ?_
                      refine ⟨rfl, cI_mk hc frR (pI_fr pi115 (f118 5 (by decide)).1 (f118 6 (by decide)).1 (f118 10 (by decide)).1 (f118 11 (by decide)).1) (ordOK_fr (show ordOK (uz M 0 8 0) from ordOK_fr hc.2.1 (uz_o (by decide))) (((f118 4 (by decide)).1).trans (f115 4 (by decide)).1)), fun q => ?_⟩
                      first
                        | (have := q f (by omega) (by omega); omega)
                        | (have := q g (by omega) (by omega); omega)
                        | (refine Or.inr (Or.inr (Or.inr ⟨by omega, by omega, by omega, ?_⟩))
                           rcases (show t = 1 ∨ t = 2 by omega) with e | e
                           · have := kn115.1 rfl rfl rfl e; omega
                           · have := kn115.2 rfl rfl rfl e; omega)
                · refine Z_iconst (n := 74) dX3_combine_73 rfl (by decide) ?_
                  refine Z_iret dX3_combine_74 rfl ?_
                  exact ⟨rfl, hc, fun _ => Or.inr (Or.inr (Or.inl ⟨by omega, by omega, by omega, by omega, rfl⟩))⟩
            · refine Z_aload_n (n := 52) dX3_combine_51 rfl rfl ?_
              refine Z_iload_n (n := 53) dX3_combine_52 rfl rfl ?_
              refine Z_callVi (n := 56) [_] _ dX3_combine_53 rfl cwX3_139 rfl rfl (by first | rfl | exact nS0 (nA_at (by omega) (by omega))) (Nat.le_of_ble_eq_true rfl) (by refine ⟨?_, ?_, ?_, ?_⟩ <;> exact Nat.le_of_ble_eq_true rfl) (fun _ _ => trivial) (zX3_hasFunction  ) ?_
              intro x53 M53 J53 z53 f53 q53
              obtain ⟨e53_1, e53_2, h53⟩ := q53
              replace e53_1 := e53_1.symm; subst e53_1
              replace e53_2 := e53_2.symm; subst e53_2
              refine Z_if_eq (n := 59) (t := 73) dX3_combine_56 rfl (by decide) (fun c56 => ?_) (fun c56 => ?_)
              · refine Z_iconst (n := 74) dX3_combine_73 rfl (by decide) ?_
                refine Z_iret dX3_combine_74 rfl ?_
                exact ⟨rfl, hc, fun _ => Or.inr (Or.inr (Or.inl ⟨by omega, by omega, by omega, by omega, rfl⟩))⟩
              · refine Z_iload (n := 61) dX3_combine_59 rfl rfl ?_
                refine Z_if_eq (n := 64) (t := 75) dX3_combine_61 rfl (by decide) (fun c61 => ?_) (fun c61 => ?_)
                · refine Z_aload_n (n := 76) dX3_combine_75 rfl rfl ?_
                  refine Z_callVv (n := 79) [] _ dX3_combine_76 rfl cwX3_126 rfl rfl (by first | rfl | exact nS0 (nA_at (by omega) (by omega))) (Nat.le_of_ble_eq_true rfl) (by refine ⟨?_, ?_, ?_, ?_⟩ <;> exact Nat.le_of_ble_eq_true rfl) (fun _ h => h) (zX3_beginSteps  (by exact fun h => by unfold kPub at h; omega)) ?_
                  intro M76 J76 f76 q76
                  obtain ⟨e76_1, e76_2⟩ := q76
                  replace e76_1 := e76_1.symm; subst e76_1
                  replace e76_2 := e76_2.symm; subst e76_2
                  refine Z_aload_n (n := 80) dX3_combine_79 rfl rfl ?_
                  refine Z_iload_n (n := 81) dX3_combine_80 rfl rfl ?_
                  refine Z_aload_n (n := 82) dX3_combine_81 rfl rfl ?_
                  refine Z_iload_n (n := 83) dX3_combine_82 rfl rfl ?_
                  refine Z_iload (n := 85) dX3_combine_83 rfl rfl ?_
                  refine Z_if_eq (n := 88) (t := 97) dX3_combine_85 rfl (by decide) (fun c85 => ?_) (fun c85 => ?_)
                  · refine Z_iconst (n := 98) dX3_combine_97 rfl (by decide) ?_
                    refine Z_iload (n := 100) dX3_combine_98 rfl rfl ?_
                    refine Z_if_eq (n := 103) (t := 113) dX3_combine_100 rfl (by decide) (fun c100 => ?_) (fun c100 => ?_)
                    · refine Z_iconst (n := 114) dX3_combine_113 rfl (by decide) ?_
                      refine Z_iconst (n := 115) dX3_combine_114 rfl (by decide) ?_
                      refine Z_callVi (n := 118) [_, _, _, _] _ dX3_combine_115 rfl cwX3_142 rfl rfl (by first | rfl | exact nS0 (nA_at (by omega) (by omega))) (Nat.le_of_ble_eq_true rfl) (by refine ⟨?_, ?_, ?_, ?_⟩ <;> exact Nat.le_of_ble_eq_true rfl) (fun a h => by unfold kPub at h; unfold kStep; omega) (zX3_kindStep  (by omega) (by omega) (by omega) (by omega) (by omega) (by omega) (by omega) (by omega) (by exact (show pI (uz M 0 8 0) from pI_fr hc.1 (uz_o (by decide)) (uz_o (by decide)) (uz_o (by decide)) (uz_o (by decide))))) ?_
                      intro x115 M115 J115 z115 f115 q115
                      obtain ⟨e115_1, l115, u115, pi115, kn115⟩ := q115
                      replace e115_1 := e115_1.symm; subst e115_1
                      refine Z_callVi (n := 121) [_, _] _ dX3_combine_118 rfl cwX3_133 rfl rfl (by first | rfl | exact nS0 (nA_at (by omega) (by omega))) (Nat.le_of_ble_eq_true rfl) (by refine ⟨?_, ?_, ?_, ?_⟩ <;> exact Nat.le_of_ble_eq_true rfl) (fun a h => by unfold kPub at h; unfold kGive; omega) (zX3_give  (by first | assumption | omega | decide) (by first | assumption | omega | decide) (by first | assumption | omega | decide) (by first | assumption | omega | decide)) ?_
                      intro x118 M118 J118 z118 f118 q118
                      obtain ⟨e118_1, h118⟩ := q118
                      replace e118_1 := e118_1.symm; subst e118_1
                      refine Z_fr (fun frR => ?_)
                      refine Z_iret dX3_combine_121 rfl ?_
                      refine ⟨rfl, cI_mk hc frR (pI_fr pi115 (f118 5 (by decide)).1 (f118 6 (by decide)).1 (f118 10 (by decide)).1 (f118 11 (by decide)).1) (ordOK_fr (show ordOK (uz M 0 8 0) from ordOK_fr hc.2.1 (uz_o (by decide))) (((f118 4 (by decide)).1).trans (f115 4 (by decide)).1)), fun q => ?_⟩
                      first
                        | (have := q f (by omega) (by omega); omega)
                        | (have := q g (by omega) (by omega); omega)
                        | (refine Or.inr (Or.inr (Or.inr ⟨by omega, by omega, by omega, ?_⟩))
                           rcases (show t = 1 ∨ t = 2 by omega) with e | e
                           · have := kn115.1 rfl rfl rfl e; omega
                           · have := kn115.2 rfl rfl rfl e; omega)
                    · refine Z_aload_n (n := 104) dX3_combine_103 rfl rfl ?_
                      refine Z_getA (n := 107) dX3_combine_104 rfl ffX3_29 (by first | rfl | exact nS0 (nA_at (by omega) (by omega))) (by first | rfl | exact nS0 (nA_at (by omega) (by omega))) ?_
                      refine Z_iload (n := 109) dX3_combine_107 rfl rfl ?_
                      refine Z_iald (n := 110) dX3_combine_109 rfl (by first | rfl | exact nS0 (nA_at (by omega) (by omega))) rfl (by first | decide | assumption) (by omega) (by omega) (fun r109 s109 => ?_)
                      try simp only [uz_oo (show (12 : Nat) ≠ 0 by decide)] at r109 s109 ⊢
                      refine Z_goto (t := 114) dX3_combine_110 (by decide) ?_
                      refine Z_iconst (n := 115) dX3_combine_114 rfl (by decide) ?_
                      refine Z_callVi (n := 118) [_, _, _, _] _ dX3_combine_115 rfl cwX3_142 rfl rfl (by first | rfl | exact nS0 (nA_at (by omega) (by omega))) (Nat.le_of_ble_eq_true rfl) (by refine ⟨?_, ?_, ?_, ?_⟩ <;> exact Nat.le_of_ble_eq_true rfl) (fun a h => by unfold kPub at h; unfold kStep; omega) (zX3_kindStep  (by omega) (by omega) (by omega) (by omega) (by omega) (by omega) (by omega) (by omega) (by exact (show pI (uz M 0 8 0) from pI_fr hc.1 (uz_o (by decide)) (uz_o (by decide)) (uz_o (by decide)) (uz_o (by decide))))) ?_
                      intro x115 M115 J115 z115 f115 q115
                      obtain ⟨e115_1, l115, u115, pi115, kn115⟩ := q115
                      replace e115_1 := e115_1.symm; subst e115_1
                      refine Z_callVi (n := 121) [_, _] _ dX3_combine_118 rfl cwX3_133 rfl rfl (by first | rfl | exact nS0 (nA_at (by omega) (by omega))) (Nat.le_of_ble_eq_true rfl) (by refine ⟨?_, ?_, ?_, ?_⟩ <;> exact Nat.le_of_ble_eq_true rfl) (fun a h => by unfold kPub at h; unfold kGive; omega) (zX3_give  (by first | assumption | omega | decide) (by first | assumption | omega | decide) (by first | assumption | omega | decide) (by first | assumption | omega | decide)) ?_
                      intro x118 M118 J118 z118 f118 q118
                      obtain ⟨e118_1, h118⟩ := q118
                      replace e118_1 := e118_1.symm; subst e118_1
                      refine Z_fr (fun frR => ?_)
                      refine Z_iret dX3_combine_121 rfl ?_
                      refine ⟨rfl, cI_mk hc frR (pI_fr pi115 (f118 5 (by decide)).1 (f118 6 (by decide)).1 (f118 10 (by decide)).1 (f118 11 (by decide)).1) (ordOK_fr (show ordOK (uz M 0 8 0) from ordOK_fr hc.2.1 (uz_o (by decide))) (((f118 4 (by decide)).1).trans (f115 4 (by decide)).1)), fun q => ?_⟩
                      first
                        | (have := q f (by omega) (by omega); omega)
                        | (have := q g (by omega) (by omega); omega)
                        | (refine Or.inr (Or.inr (Or.inr ⟨by omega, by omega, by omega, ?_⟩))
                           rcases (show t = 1 ∨ t = 2 by omega) with e | e
                           · have := kn115.1 rfl rfl rfl e; omega
                           · have := kn115.2 rfl rfl rfl e; omega)
                  · refine Z_aload_n (n := 89) dX3_combine_88 rfl rfl ?_
                    refine Z_getA (n := 92) dX3_combine_89 rfl ffX3_29 (by first | rfl | exact nS0 (nA_at (by omega) (by omega))) (by first | rfl | exact nS0 (nA_at (by omega) (by omega))) ?_
                    refine Z_iload_n (n := 93) dX3_combine_92 rfl rfl ?_
                    refine Z_iald (n := 94) dX3_combine_93 rfl (by first | rfl | exact nS0 (nA_at (by omega) (by omega))) rfl (by first | decide | assumption) (by omega) (by omega) (fun r93 s93 => ?_)
                    try simp only [uz_oo (show (12 : Nat) ≠ 0 by decide)] at r93 s93 ⊢
                    refine Z_goto (t := 98) dX3_combine_94 (by decide) ?_
                    refine Z_iload (n := 100) dX3_combine_98 rfl rfl ?_
                    refine Z_if_eq (n := 103) (t := 113) dX3_combine_100 rfl (by decide) (fun c100 => ?_) (fun c100 => ?_)
                    · refine Z_iconst (n := 114) dX3_combine_113 rfl (by decide) ?_
                      refine Z_iconst (n := 115) dX3_combine_114 rfl (by decide) ?_
                      refine Z_callVi (n := 118) [_, _, _, _] _ dX3_combine_115 rfl cwX3_142 rfl rfl (by first | rfl | exact nS0 (nA_at (by omega) (by omega))) (Nat.le_of_ble_eq_true rfl) (by refine ⟨?_, ?_, ?_, ?_⟩ <;> exact Nat.le_of_ble_eq_true rfl) (fun a h => by unfold kPub at h; unfold kStep; omega) (zX3_kindStep  (by omega) (by omega) (by omega) (by omega) (by omega) (by omega) (by omega) (by omega) (by exact (show pI (uz M 0 8 0) from pI_fr hc.1 (uz_o (by decide)) (uz_o (by decide)) (uz_o (by decide)) (uz_o (by decide))))) ?_
                      intro x115 M115 J115 z115 f115 q115
                      obtain ⟨e115_1, l115, u115, pi115, kn115⟩ := q115
                      replace e115_1 := e115_1.symm; subst e115_1
                      refine Z_callVi (n := 121) [_, _] _ dX3_combine_118 rfl cwX3_133 rfl rfl (by first | rfl | exact nS0 (nA_at (by omega) (by omega))) (Nat.le_of_ble_eq_true rfl) (by refine ⟨?_, ?_, ?_, ?_⟩ <;> exact Nat.le_of_ble_eq_true rfl) (fun a h => by unfold kPub at h; unfold kGive; omega) (zX3_give  (by first | assumption | omega | decide) (by first | assumption | omega | decide) (by first | assumption | omega | decide) (by first | assumption | omega | decide)) ?_
                      intro x118 M118 J118 z118 f118 q118
                      obtain ⟨e118_1, h118⟩ := q118
                      replace e118_1 := e118_1.symm; subst e118_1
                      refine Z_fr (fun frR => ?_)
                      refine Z_iret dX3_combine_121 rfl ?_
                      refine ⟨rfl, cI_mk hc frR (pI_fr pi115 (f118 5 (by decide)).1 (f118 6 (by decide)).1 (f118 10 (by decide)).1 (f118 11 (by decide)).1) (ordOK_fr (show ordOK (uz M 0 8 0) from ordOK_fr hc.2.1 (uz_o (by decide))) (((f118 4 (by decide)).1).trans (f115 4 (by decide)).1)), fun q => ?_⟩
                      first
                        | (have := q f (by omega) (by omega); omega)
                        | (have := q g (by omega) (by omega); omega)
                        | (refine Or.inr (Or.inr (Or.inr ⟨by omega, by omega, by omega, ?_⟩))
                           rcases (show t = 1 ∨ t = 2 by omega) with e | e
                           · have := kn115.1 rfl rfl rfl e; omega
                           · have := kn115.2 rfl rfl rfl e; omega)
                    · refine Z_aload_n (n := 104) dX3_combine_103 rfl rfl ?_
                      refine Z_getA (n := 107) dX3_combine_104 rfl ffX3_29 (by first | rfl | exact nS0 (nA_at (by omega) (by omega))) (by first | rfl | exact nS0 (nA_at (by omega) (by omega))) ?_
                      refine Z_iload (n := 109) dX3_combine_107 rfl rfl ?_
                      refine Z_iald (n := 110) dX3_combine_109 rfl (by first | rfl | exact nS0 (nA_at (by omega) (by omega))) rfl (by first | decide | assumption) (by omega) (by omega) (fun r109 s109 => ?_)
                      try simp only [uz_oo (show (12 : Nat) ≠ 0 by decide)] at r109 s109 ⊢
                      refine Z_goto (t := 114) dX3_combine_110 (by decide) ?_
                      refine Z_iconst (n := 115) dX3_combine_114 rfl (by decide) ?_
                      refine Z_callVi (n := 118) [_, _, _, _] _ dX3_combine_115 rfl cwX3_142 rfl rfl (by first | rfl | exact nS0 (nA_at (by omega) (by omega))) (Nat.le_of_ble_eq_true rfl) (by refine ⟨?_, ?_, ?_, ?_⟩ <;> exact Nat.le_of_ble_eq_true rfl) (fun a h => by unfold kPub at h; unfold kStep; omega) (zX3_kindStep  (by omega) (by omega) (by omega) (by omega) (by omega) (by omega) (by omega) (by omega) (by exact (show pI (uz M 0 8 0) from pI_fr hc.1 (uz_o (by decide)) (uz_o (by decide)) (uz_o (by decide)) (uz_o (by decide))))) ?_
                      intro x115 M115 J115 z115 f115 q115
                      obtain ⟨e115_1, l115, u115, pi115, kn115⟩ := q115
                      replace e115_1 := e115_1.symm; subst e115_1
                      refine Z_callVi (n := 121) [_, _] _ dX3_combine_118 rfl cwX3_133 rfl rfl (by first | rfl | exact nS0 (nA_at (by omega) (by omega))) (Nat.le_of_ble_eq_true rfl) (by refine ⟨?_, ?_, ?_, ?_⟩ <;> exact Nat.le_of_ble_eq_true rfl) (fun a h => by unfold kPub at h; unfold kGive; omega) (zX3_give  (by first | assumption | omega | decide) (by first | assumption | omega | decide) (by first | assumption | omega | decide) (by first | assumption | omega | decide)) ?_
                      intro x118 M118 J118 z118 f118 q118
                      obtain ⟨e118_1, h118⟩ := q118
                      replace e118_1 := e118_1.symm; subst e118_1
                      refine Z_fr (fun frR => ?_)
                      refine Z_iret dX3_combine_121 rfl ?_
                      refine ⟨rfl, cI_mk hc frR (pI_fr pi115 (f118 5 (by decide)).1 (f118 6 (by decide)).1 (f118 10 (by decide)).1 (f118 11 (by decide)).1) (ordOK_fr (show ordOK (uz M 0 8 0) from ordOK_fr hc.2.1 (uz_o (by decide))) (((f118 4 (by decide)).1).trans (f115 4 (by decide)).1)), fun q => ?_⟩
                      first
                        | (have := q f (by omega) (by omega); omega)
                        | (have := q g (by omega) (by omega); omega)
                        | (refine Or.inr (Or.inr (Or.inr ⟨by omega, by omega, by omega, ?_⟩))
                           rcases (show t = 1 ∨ t = 2 by omega) with e | e
                           · have := kn115.1 rfl rfl rfl e; omega
                           · have := kn115.2 rfl rfl rfl e; omega)
                · refine Z_aload_n (n := 65) dX3_combine_64 rfl rfl ?_
                  refine Z_iload (n := 67) dX3_combine_65 rfl rfl ?_
                  refine Z_callVi (n := 70) [_] _ dX3_combine_67 rfl cwX3_139 rfl rfl (by first | rfl | exact nS0 (nA_at (by omega) (by omega))) (Nat.le_of_ble_eq_true rfl) (by refine ⟨?_, ?_, ?_, ?_⟩ <;> exact Nat.le_of_ble_eq_true rfl) (fun _ _ => trivial) (zX3_hasFunction  ) ?_
                  intro x67 M67 J67 z67 f67 q67
                  obtain ⟨e67_1, e67_2, h67⟩ := q67
                  replace e67_1 := e67_1.symm; subst e67_1
                  replace e67_2 := e67_2.symm; subst e67_2
                  refine Z_if_ne (n := 73) (t := 75) dX3_combine_70 rfl (by decide) (fun c70 => ?_) (fun c70 => ?_)
                  · refine Z_aload_n (n := 76) dX3_combine_75 rfl rfl ?_
                    refine Z_callVv (n := 79) [] _ dX3_combine_76 rfl cwX3_126 rfl rfl (by first | rfl | exact nS0 (nA_at (by omega) (by omega))) (Nat.le_of_ble_eq_true rfl) (by refine ⟨?_, ?_, ?_, ?_⟩ <;> exact Nat.le_of_ble_eq_true rfl) (fun _ h => h) (zX3_beginSteps  (by exact fun h => by unfold kPub at h; omega)) ?_
                    intro M76 J76 f76 q76
                    obtain ⟨e76_1, e76_2⟩ := q76
                    replace e76_1 := e76_1.symm; subst e76_1
                    replace e76_2 := e76_2.symm; subst e76_2
                    refine Z_aload_n (n := 80) dX3_combine_79 rfl rfl ?_
                    refine Z_iload_n (n := 81) dX3_combine_80 rfl rfl ?_
                    refine Z_aload_n (n := 82) dX3_combine_81 rfl rfl ?_
                    refine Z_iload_n (n := 83) dX3_combine_82 rfl rfl ?_
                    refine Z_iload (n := 85) dX3_combine_83 rfl rfl ?_
                    refine Z_if_eq (n := 88) (t := 97) dX3_combine_85 rfl (by decide) (fun c85 => ?_) (fun c85 => ?_)
                    · refine Z_iconst (n := 98) dX3_combine_97 rfl (by decide) ?_
                      refine Z_iload (n := 100) dX3_combine_98 rfl rfl ?_
                      refine Z_if_eq (n := 103) (t := 113) dX3_combine_100 rfl (by decide) (fun c100 => ?_) (fun c100 => ?_)
                      · refine Z_iconst (n := 114) dX3_combine_113 rfl (by decide) ?_
                        refine Z_iconst (n := 115) dX3_combine_114 rfl (by decide) ?_
                        refine Z_callVi (n := 118) [_, _, _, _] _ dX3_combine_115 rfl cwX3_142 rfl rfl (by first | rfl | exact nS0 (nA_at (by omega) (by omega))) (Nat.le_of_ble_eq_true rfl) (by refine ⟨?_, ?_, ?_, ?_⟩ <;> exact Nat.le_of_ble_eq_true rfl) (fun a h => by unfold kPub at h; unfold kStep; omega) (zX3_kindStep  (by omega) (by omega) (by omega) (by omega) (by omega) (by omega) (by omega) (by omega) (by exact (show pI (uz M 0 8 0) from pI_fr hc.1 (uz_o (by decide)) (uz_o (by decide)) (uz_o (by decide)) (uz_o (by decide))))) ?_
                        intro x115 M115 J115 z115 f115 q115
                        obtain ⟨e115_1, l115, u115, pi115, kn115⟩ := q115
                        replace e115_1 := e115_1.symm; subst e115_1
                        refine Z_callVi (n := 121) [_, _] _ dX3_combine_118 rfl cwX3_133 rfl rfl (by first | rfl | exact nS0 (nA_at (by omega) (by omega))) (Nat.le_of_ble_eq_true rfl) (by refine ⟨?_, ?_, ?_, ?_⟩ <;> exact Nat.le_of_ble_eq_true rfl) (fun a h => by unfold kPub at h; unfold kGive; omega) (zX3_give  (by first | assumption | omega | decide) (by first | assumption | omega | decide) (by first | assumption | omega | decide) (by first | assumption | omega | decide)) ?_
                        intro x118 M118 J118 z118 f118 q118
                        obtain ⟨e118_1, h118⟩ := q118
                        replace e118_1 := e118_1.symm; subst e118_1
                        refine Z_fr (fun frR => ?_)
                        refine Z_iret dX3_combine_121 rfl ?_
                        refine ⟨rfl, cI_mk hc frR (pI_fr pi115 (f118 5 (by decide)).1 (f118 6 (by decide)).1 (f118 10 (by decide)).1 (f118 11 (by decide)).1) (ordOK_fr (show ordOK (uz M 0 8 0) from ordOK_fr hc.2.1 (uz_o (by decide))) (((f118 4 (by decide)).1).trans (f115 4 (by decide)).1)), fun q => ?_⟩
                        first
                          | (have := q f (by omega) (by omega); omega)
                          | (have := q g (by omega) (by omega); omega)
                          | (refine Or.inr (Or.inr (Or.inr ⟨by omega, by omega, by omega, ?_⟩))
                             rcases (show t = 1 ∨ t = 2 by omega) with e | e
                             · have := kn115.1 rfl rfl rfl e; omega
                             · have := kn115.2 rfl rfl rfl e; omega)
                      · refine Z_aload_n (n := 104) dX3_combine_103 rfl rfl ?_
                        refine Z_getA (n := 107) dX3_combine_104 rfl ffX3_29 (by first | rfl | exact nS0 (nA_at (by omega) (by omega))) (by first | rfl | exact nS0 (nA_at (by omega) (by omega))) ?_
                        refine Z_iload (n := 109) dX3_combine_107 rfl rfl ?_
                        refine Z_iald (n := 110) dX3_combine_109 rfl (by first | rfl | exact nS0 (nA_at (by omega) (by omega))) rfl (by first | decide | assumption) (by omega) (by omega) (fun r109 s109 => ?_)
                        try simp only [uz_oo (show (12 : Nat) ≠ 0 by decide)] at r109 s109 ⊢
                        refine Z_goto (t := 114) dX3_combine_110 (by decide) ?_
                        refine Z_iconst (n := 115) dX3_combine_114 rfl (by decide) ?_
                        refine Z_callVi (n := 118) [_, _, _, _] _ dX3_combine_115 rfl cwX3_142 rfl rfl (by first | rfl | exact nS0 (nA_at (by omega) (by omega))) (Nat.le_of_ble_eq_true rfl) (by refine ⟨?_, ?_, ?_, ?_⟩ <;> exact Nat.le_of_ble_eq_true rfl) (fun a h => by unfold kPub at h; unfold kStep; omega) (zX3_kindStep  (by omega) (by omega) (by omega) (by omega) (by omega) (by omega) (by omega) (by omega) (by exact (show pI (uz M 0 8 0) from pI_fr hc.1 (uz_o (by decide)) (uz_o (by decide)) (uz_o (by decide)) (uz_o (by decide))))) ?_
                        intro x115 M115 J115 z115 f115 q115
                        obtain ⟨e115_1, l115, u115, pi115, kn115⟩ := q115
                        replace e115_1 := e115_1.symm; subst e115_1
                        refine Z_callVi (n := 121) [_, _] _ dX3_combine_118 rfl cwX3_133 rfl rfl (by first | rfl | exact nS0 (nA_at (by omega) (by omega))) (Nat.le_of_ble_eq_true rfl) (by refine ⟨?_, ?_, ?_, ?_⟩ <;> exact Nat.le_of_ble_eq_true rfl) (fun a h => by unfold kPub at h; unfold kGive; omega) (zX3_give  (by first | assumption | omega | decide) (by first | assumption | omega | decide) (by first | assumption | omega | decide) (by first | assumption | omega | decide)) ?_
                        intro x118 M118 J118 z118 f118 q118
                        obtain ⟨e118_1, h118⟩ := q118
                        replace e118_1 := e118_1.symm; subst e118_1
                        refine Z_fr (fun frR => ?_)
                        refine Z_iret dX3_combine_121 rfl ?_
                        refine ⟨rfl, cI_mk hc frR (pI_fr pi115 (f118 5 (by decide)).1 (f118 6 (by decide)).1 (f118 10 (by decide)).1 (f118 11 (by decide)).1) (ordOK_fr (show ordOK (uz M 0 8 0) from ordOK_fr hc.2.1 (uz_o (by decide))) (((f118 4 (by decide)).1).trans (f115 4 (by decide)).1)), fun q => ?_⟩
                        first
                          | (have := q f (by omega) (by omega); omega)
                          | (have := q g (by omega) (by omega); omega)
                          | (refine Or.inr (Or.inr (Or.inr ⟨by omega, by omega, by omega, ?_⟩))
                             rcases (show t = 1 ∨ t = 2 by omega) with e | e
                             · have := kn115.1 rfl rfl rfl e; omega
                             · have := kn115.2 rfl rfl rfl e; omega)
                    · refine Z_aload_n (n := 89) dX3_combine_88 rfl rfl ?_
                      refine Z_getA (n := 92) dX3_combine_89 rfl ffX3_29 (by first | rfl | exact nS0 (nA_at (by omega) (by omega))) (by first | rfl | exact nS0 (nA_at (by omega) (by omega))) ?_
                      refine Z_iload_n (n := 93) dX3_combine_92 rfl rfl ?_
                      refine Z_iald (n := 94) dX3_combine_93 rfl (by first | rfl | exact nS0 (nA_at (by omega) (by omega))) rfl (by first | decide | assumption) (by omega) (by omega) (fun r93 s93 => ?_)
                      try simp only [uz_oo (show (12 : Nat) ≠ 0 by decide)] at r93 s93 ⊢
                      refine Z_goto (t := 98) dX3_combine_94 (by decide) ?_
                      refine Z_iload (n := 100) dX3_combine_98 rfl rfl ?_
                      refine Z_if_eq (n := 103) (t := 113) dX3_combine_100 rfl (by decide) (fun c100 => ?_) (fun c100 => ?_)
                      · refine Z_iconst (n := 114) dX3_combine_113 rfl (by decide) ?_
                        refine Z_iconst (n := 115) dX3_combine_114 rfl (by decide) ?_
                        refine Z_callVi (n := 118) [_, _, _, _] _ dX3_combine_115 rfl cwX3_142 rfl rfl (by first | rfl | exact nS0 (nA_at (by omega) (by omega))) (Nat.le_of_ble_eq_true rfl) (by refine ⟨?_, ?_, ?_, ?_⟩ <;> exact Nat.le_of_ble_eq_true rfl) (fun a h => by unfold kPub at h; unfold kStep; omega) (zX3_kindStep  (by omega) (by omega) (by omega) (by omega) (by omega) (by omega) (by omega) (by omega) (by exact (show pI (uz M 0 8 0) from pI_fr hc.1 (uz_o (by decide)) (uz_o (by decide)) (uz_o (by decide)) (uz_o (by decide))))) ?_
                        intro x115 M115 J115 z115 f115 q115
                        obtain ⟨e115_1, l115, u115, pi115, kn115⟩ := q115
                        replace e115_1 := e115_1.symm; subst e115_1
                        refine Z_callVi (n := 121) [_, _] _ dX3_combine_118 rfl cwX3_133 rfl rfl (by first | rfl | exact nS0 (nA_at (by omega) (by omega))) (Nat.le_of_ble_eq_true rfl) (by refine ⟨?_, ?_, ?_, ?_⟩ <;> exact Nat.le_of_ble_eq_true rfl) (fun a h => by unfold kPub at h; unfold kGive; omega) (zX3_give  (by first | assumption | omega | decide) (by first | assumption | omega | decide) (by first | assumption | omega | decide) (by first | assumption | omega | decide)) ?_
                        intro x118 M118 J118 z118 f118 q118
                        obtain ⟨e118_1, h118⟩ := q118
                        replace e118_1 := e118_1.symm; subst e118_1
                        refine Z_fr (fun frR => ?_)
                        refine Z_iret dX3_combine_121 rfl ?_
                        refine ⟨rfl, cI_mk hc frR (pI_fr pi115 (f118 5 (by decide)).1 (f118 6 (by decide)).1 (f118 10 (by decide)).1 (f118 11 (by decide)).1) (ordOK_fr (show ordOK (uz M 0 8 0) from ordOK_fr hc.2.1 (uz_o (by decide))) (((f118 4 (by decide)).1).trans (f115 4 (by decide)).1)), fun q => ?_⟩
                        first
                          | (have := q f (by omega) (by omega); omega)
                          | (have := q g (by omega) (by omega); omega)
                          | (refine Or.inr (Or.inr (Or.inr ⟨by omega, by omega, by omega, ?_⟩))
                             rcases (show t = 1 ∨ t = 2 by omega) with e | e
                             · have := kn115.1 rfl rfl rfl e; omega
                             · have := kn115.2 rfl rfl rfl e; omega)
                      · refine Z_aload_n (n := 104) dX3_combine_103 rfl rfl ?_
                        refine Z_getA (n := 107) dX3_combine_104 rfl ffX3_29 (by first | rfl | exact nS0 (nA_at (by omega) (by omega))) (by first | rfl | exact nS0 (nA_at (by omega) (by omega))) ?_
                        refine Z_iload (n := 109) dX3_combine_107 rfl rfl ?_
                        refine Z_iald (n := 110) dX3_combine_109 rfl (by first | rfl | exact nS0 (nA_at (by omega) (by omega))) rfl (by first | decide | assumption) (by omega) (by omega) (fun r109 s109 => ?_)
                        try simp only [uz_oo (show (12 : Nat) ≠ 0 by decide)] at r109 s109 ⊢
                        refine Z_goto (t := 114) dX3_combine_110 (by decide) ?_
                        refine Z_iconst (n := 115) dX3_combine_114 rfl (by decide) ?_
                        refine Z_callVi (n := 118) [_, _, _, _] _ dX3_combine_115 rfl cwX3_142 rfl rfl (by first | rfl | exact nS0 (nA_at (by omega) (by omega))) (Nat.le_of_ble_eq_true rfl) (by refine ⟨?_, ?_, ?_, ?_⟩ <;> exact Nat.le_of_ble_eq_true rfl) (fun a h => by unfold kPub at h; unfold kStep; omega) (zX3_kindStep  (by omega) (by omega) (by omega) (by omega) (by omega) (by omega) (by omega) (by omega) (by exact (show pI (uz M 0 8 0) from pI_fr hc.1 (uz_o (by decide)) (uz_o (by decide)) (uz_o (by decide)) (uz_o (by decide))))) ?_
                        intro x115 M115 J115 z115 f115 q115
                        obtain ⟨e115_1, l115, u115, pi115, kn115⟩ := q115
                        replace e115_1 := e115_1.symm; subst e115_1
                        refine Z_callVi (n := 121) [_, _] _ dX3_combine_118 rfl cwX3_133 rfl rfl (by first | rfl | exact nS0 (nA_at (by omega) (by omega))) (Nat.le_of_ble_eq_true rfl) (by refine ⟨?_, ?_, ?_, ?_⟩ <;> exact Nat.le_of_ble_eq_true rfl) (fun a h => by unfold kPub at h; unfold kGive; omega) (zX3_give  (by first | assumption | omega | decide) (by first | assumption | omega | decide) (by first | assumption | omega | decide) (by first | assumption | omega | decide)) ?_
                        intro x118 M118 J118 z118 f118 q118
                        obtain ⟨e118_1, h118⟩ := q118
                        replace e118_1 := e118_1.symm; subst e118_1
                        refine Z_fr (fun frR => ?_)
                        refine Z_iret dX3_combine_121 rfl ?_
                        refine ⟨rfl, cI_mk hc frR (pI_fr pi115 (f118 5 (by decide)).1 (f118 6 (by decide)).1 (f118 10 (by decide)).1 (f118 11 (by decide)).1) (ordOK_fr (show ordOK (uz M 0 8 0) from ordOK_fr hc.2.1 (uz_o (by decide))) (((f118 4 (by decide)).1).trans (f115 4 (by decide)).1)), fun q => ?_⟩
                        first
                          | (have := q f (by omega) (by omega); omega)
                          | (have := q g (by omega) (by omega); omega)
                          | (refine Or.inr (Or.inr (Or.inr ⟨by omega, by omega, by omega, ?_⟩))
                             rcases (show t = 1 ∨ t = 2 by omega) with e | e
                             · have := kn115.1 rfl rfl rfl e; omega
                             · have := kn115.2 rfl rfl rfl e; omega)
                  · refine Z_iconst (n := 74) dX3_combine_73 rfl (by decide) ?_
                    refine Z_iret dX3_combine_74 rfl ?_
                    exact ⟨rfl, hc, fun _ => Or.inr (Or.inr (Or.inl ⟨by omega, by omega, by omega, by omega, rfl⟩))⟩
        · refine Z_iconst (n := 28) dX3_combine_27 rfl (by decide) ?_
          refine Z_goto (t := 32) dX3_combine_28 (by decide) ?_
          refine Z_istore (L' := [_, _, _, _, _, _, _]) (n := 34) dX3_combine_32 rfl (by decide) rfl rfl ?_
          refine Z_iload_n (n := 35) dX3_combine_34 rfl rfl ?_
          refine Z_iconst (n := 36) dX3_combine_35 rfl (by decide) ?_
          refine Z_icmp_le (n := 39) (t := 43) dX3_combine_36 rfl (by decide) (fun c36 => ?_) (fun c36 => ?_)
          · refine Z_iconst (n := 44) dX3_combine_43 rfl (by decide) ?_
            refine Z_istore (L' := [_, _, _, _, _, _, _]) (n := 46) dX3_combine_44 rfl (by decide) rfl rfl ?_
            refine Z_iload (n := 48) dX3_combine_46 rfl rfl ?_
            refine Z_if_eq (n := 51) (t := 59) dX3_combine_48 rfl (by decide) (fun c48 => ?_) (fun c48 => ?_)
            · refine Z_iload (n := 61) dX3_combine_59 rfl rfl ?_
              refine Z_if_eq (n := 64) (t := 75) dX3_combine_61 rfl (by decide) (fun c61 => ?_) (fun c61 => ?_)
              · refine Z_aload_n (n := 76) dX3_combine_75 rfl rfl ?_
                refine Z_callVv (n := 79) [] _ dX3_combine_76 rfl cwX3_126 rfl rfl (by first | rfl | exact nS0 (nA_at (by omega) (by omega))) (Nat.le_of_ble_eq_true rfl) (by refine ⟨?_, ?_, ?_, ?_⟩ <;> exact Nat.le_of_ble_eq_true rfl) (fun _ h => h) (zX3_beginSteps  (by exact fun h => by unfold kPub at h; omega)) ?_
                intro M76 J76 f76 q76
                obtain ⟨e76_1, e76_2⟩ := q76
                replace e76_1 := e76_1.symm; subst e76_1
                replace e76_2 := e76_2.symm; subst e76_2
                refine Z_aload_n (n := 80) dX3_combine_79 rfl rfl ?_
                refine Z_iload_n (n := 81) dX3_combine_80 rfl rfl ?_
                refine Z_aload_n (n := 82) dX3_combine_81 rfl rfl ?_
                refine Z_iload_n (n := 83) dX3_combine_82 rfl rfl ?_
                refine Z_iload (n := 85) dX3_combine_83 rfl rfl ?_
                refine Z_if_eq (n := 88) (t := 97) dX3_combine_85 rfl (by decide) (fun c85 => ?_) (fun c85 => ?_)
                · refine Z_iconst (n := 98) dX3_combine_97 rfl (by decide) ?_
                  refine Z_iload (n := 100) dX3_combine_98 rfl rfl ?_
                  refine Z_if_eq (n := 103) (t := 113) dX3_combine_100 rfl (by decide) (fun c100 => ?_) (fun c100 => ?_)
                  · refine Z_iconst (n := 114) dX3_combine_113 rfl (by decide) ?_
                    refine Z_iconst (n := 115) dX3_combine_114 rfl (by decide) ?_
                    refine Z_callVi (n := 118) [_, _, _, _] _ dX3_combine_115 rfl cwX3_142 rfl rfl (by first | rfl | exact nS0 (nA_at (by omega) (by omega))) (Nat.le_of_ble_eq_true rfl) (by refine ⟨?_, ?_, ?_, ?_⟩ <;> exact Nat.le_of_ble_eq_true rfl) (fun a h => by unfold kPub at h; unfold kStep; omega) (zX3_kindStep  (by omega) (by omega) (by omega) (by omega) (by omega) (by omega) (by omega) (by omega) (by exact (show pI (uz M 0 8 0) from pI_fr hc.1 (uz_o (by decide)) (uz_o (by decide)) (uz_o (by decide)) (uz_o (by decide))))) ?_
                    intro x115 M115 J115 z115 f115 q115
                    obtain ⟨e115_1, l115, u115, pi115, kn115⟩ := q115
                    replace e115_1 := e115_1.symm; subst e115_1
                    refine Z_callVi (n := 121) [_, _] _ dX3_combine_118 rfl cwX3_133 rfl rfl (by first | rfl | exact nS0 (nA_at (by omega) (by omega))) (Nat.le_of_ble_eq_true rfl) (by refine ⟨?_, ?_, ?_, ?_⟩ <;> exact Nat.le_of_ble_eq_true rfl) (fun a h => by unfold kPub at h; unfold kGive; omega) (zX3_give  (by first | assumption | omega | decide) (by first | assumption | omega | decide) (by first | assumption | omega | decide) (by first | assumption | omega | decide)) ?_
                    intro x118 M118 J118 z118 f118 q118
                    obtain ⟨e118_1, h118⟩ := q118
                    replace e118_1 := e118_1.symm; subst e118_1
                    refine Z_fr (fun frR => ?_)
                    refine Z_iret dX3_combine_121 rfl ?_
                    refine ⟨rfl, cI_mk hc frR (pI_fr pi115 (f118 5 (by decide)).1 (f118 6 (by decide)).1 (f118 10 (by decide)).1 (f118 11 (by decide)).1) (ordOK_fr (show ordOK (uz M 0 8 0) from ordOK_fr hc.2.1 (uz_o (by decide))) (((f118 4 (by decide)).1).trans (f115 4 (by decide)).1)), fun q => ?_⟩
                    first
                      | (have := q f (by omega) (by omega); omega)
                      | (have := q g (by omega) (by omega); omega)
                      | (refine Or.inr (Or.inr (Or.inr ⟨by omega, by omega, by omega, ?_⟩))
                         rcases (show t = 1 ∨ t = 2 by omega) with e | e
                         · have := kn115.1 rfl rfl rfl e; omega
                         · have := kn115.2 rfl rfl rfl e; omega)
                  · refine Z_aload_n (n := 104) dX3_combine_103 rfl rfl ?_
                    refine Z_getA (n := 107) dX3_combine_104 rfl ffX3_29 (by first | rfl | exact nS0 (nA_at (by omega) (by omega))) (by first | rfl | exact nS0 (nA_at (by omega) (by omega))) ?_
                    refine Z_iload (n := 109) dX3_combine_107 rfl rfl ?_
                    refine Z_iald (n := 110) dX3_combine_109 rfl (by first | rfl | exact nS0 (nA_at (by omega) (by omega))) rfl (by first | decide | assumption) (by omega) (by omega) (fun r109 s109 => ?_)
                    try simp only [uz_oo (show (12 : Nat) ≠ 0 by decide)] at r109 s109 ⊢
                    refine Z_goto (t := 114) dX3_combine_110 (by decide) ?_
                    refine Z_iconst (n := 115) dX3_combine_114 rfl (by decide) ?_
                    refine Z_callVi (n := 118) [_, _, _, _] _ dX3_combine_115 rfl cwX3_142 rfl rfl (by first | rfl | exact nS0 (nA_at (by omega) (by omega))) (Nat.le_of_ble_eq_true rfl) (by refine ⟨?_, ?_, ?_, ?_⟩ <;> exact Nat.le_of_ble_eq_true rfl) (fun a h => by unfold kPub at h; unfold kStep; omega) (zX3_kindStep  (by omega) (by omega) (by omega) (by omega) (by omega) (by omega) (by omega) (by omega) (by exact (show pI (uz M 0 8 0) from pI_fr hc.1 (uz_o (by decide)) (uz_o (by decide)) (uz_o (by decide)) (uz_o (by decide))))) ?_
                    intro x115 M115 J115 z115 f115 q115
                    obtain ⟨e115_1, l115, u115, pi115, kn115⟩ := q115
                    replace e115_1 := e115_1.symm; subst e115_1
                    refine Z_callVi (n := 121) [_, _] _ dX3_combine_118 rfl cwX3_133 rfl rfl (by first | rfl | exact nS0 (nA_at (by omega) (by omega))) (Nat.le_of_ble_eq_true rfl) (by refine ⟨?_, ?_, ?_, ?_⟩ <;> exact Nat.le_of_ble_eq_true rfl) (fun a h => by unfold kPub at h; unfold kGive; omega) (zX3_give  (by first | assumption | omega | decide) (by first | assumption | omega | decide) (by first | assumption | omega | decide) (by first | assumption | omega | decide)) ?_
                    intro x118 M118 J118 z118 f118 q118
                    obtain ⟨e118_1, h118⟩ := q118
                    replace e118_1 := e118_1.symm; subst e118_1
                    refine Z_fr (fun frR => ?_)
                    refine Z_iret dX3_combine_121 rfl ?_
                    refine ⟨rfl, cI_mk hc frR (pI_fr pi115 (f118 5 (by decide)).1 (f118 6 (by decide)).1 (f118 10 (by decide)).1 (f118 11 (by decide)).1) (ordOK_fr (show ordOK (uz M 0 8 0) from ordOK_fr hc.2.1 (uz_o (by decide))) (((f118 4 (by decide)).1).trans (f115 4 (by decide)).1)), fun q => ?_⟩
                    first
                      | (have := q f (by omega) (by omega); omega)
                      | (have := q g (by omega) (by omega); omega)
                      | (refine Or.inr (Or.inr (Or.inr ⟨by omega, by omega, by omega, ?_⟩))
                         rcases (show t = 1 ∨ t = 2 by omega) with e | e
                         · have := kn115.1 rfl rfl rfl e; omega
                         · have := kn115.2 rfl rfl rfl e; omega)
                · refine Z_aload_n (n := 89) dX3_combine_88 rfl rfl ?_
                  refine Z_getA (n := 92) dX3_combine_89 rfl ffX3_29 (by first | rfl | exact nS0 (nA_at (by omega) (by omega))) (by first | rfl | exact nS0 (nA_at (by omega) (by omega))) ?_
                  refine Z_iload_n (n := 93) dX3_combine_92 rfl rfl ?_
                  refine Z_iald (n := 94) dX3_combine_93 rfl (by first | rfl | exact nS0 (nA_at (by omega) (by omega))) rfl (by first | decide | assumption) (by omega) (by omega) (fun r93 s93 => ?_)
                  try simp only [uz_oo (show (12 : Nat) ≠ 0 by decide)] at r93 s93 ⊢
                  refine Z_goto (t := 98) dX3_combine_94 (by decide) ?_
                  refine Z_iload (n := 100) dX3_combine_98 rfl rfl ?_
                  refine Z_if_eq (n := 103) (t := 113) dX3_combine_100 rfl (by decide) (fun c100 => ?_) (fun c100 => ?_)
                  · refine Z_iconst (n := 114) dX3_combine_113 rfl (by decide) ?_
                    refine Z_iconst (n := 115) dX3_combine_114 rfl (by decide) ?_
                    refine Z_callVi (n := 118) [_, _, _, _] _ dX3_combine_115 rfl cwX3_142 rfl rfl (by first | rfl | exact nS0 (nA_at (by omega) (by omega))) (Nat.le_of_ble_eq_true rfl) (by refine ⟨?_, ?_, ?_, ?_⟩ <;> exact Nat.le_of_ble_eq_true rfl) (fun a h => by unfold kPub at h; unfold kStep; omega) (zX3_kindStep  (by omega) (by omega) (by omega) (by omega) (by omega) (by omega) (by omega) (by omega) (by exact (show pI (uz M 0 8 0) from pI_fr hc.1 (uz_o (by decide)) (uz_o (by decide)) (uz_o (by decide)) (uz_o (by decide))))) ?_
                    intro x115 M115 J115 z115 f115 q115
                    obtain ⟨e115_1, l115, u115, pi115, kn115⟩ := q115
                    replace e115_1 := e115_1.symm; subst e115_1
                    refine Z_callVi (n := 121) [_, _] _ dX3_combine_118 rfl cwX3_133 rfl rfl (by first | rfl | exact nS0 (nA_at (by omega) (by omega))) (Nat.le_of_ble_eq_true rfl) (by refine ⟨?_, ?_, ?_, ?_⟩ <;> exact Nat.le_of_ble_eq_true rfl) (fun a h => by unfold kPub at h; unfold kGive; omega) (zX3_give  (by first | assumption | omega | decide) (by first | assumption | omega | decide) (by first | assumption | omega | decide) (by first | assumption | omega | decide)) ?_
                    intro x118 M118 J118 z118 f118 q118
                    obtain ⟨e118_1, h118⟩ := q118
                    replace e118_1 := e118_1.symm; subst e118_1
                    refine Z_fr (fun frR => ?_)
                    refine Z_iret dX3_combine_121 rfl ?_
                    refine ⟨rfl, cI_mk hc frR (pI_fr pi115 (f118 5 (by decide)).1 (f118 6 (by decide)).1 (f118 10 (by decide)).1 (f118 11 (by decide)).1) (ordOK_fr (show ordOK (uz M 0 8 0) from ordOK_fr hc.2.1 (uz_o (by decide))) (((f118 4 (by decide)).1).trans (f115 4 (by decide)).1)), fun q => ?_⟩
                    first
                      | (have := q f (by omega) (by omega); omega)
                      | (have := q g (by omega) (by omega); omega)
                      | (refine Or.inr (Or.inr (Or.inr ⟨by omega, by omega, by omega, ?_⟩))
                         rcases (show t = 1 ∨ t = 2 by omega) with e | e
                         · have := kn115.1 rfl rfl rfl e; omega
                         · have := kn115.2 rfl rfl rfl e; omega)
                  · refine Z_aload_n (n := 104) dX3_combine_103 rfl rfl ?_
                    refine Z_getA (n := 107) dX3_combine_104 rfl ffX3_29 (by first | rfl | exact nS0 (nA_at (by omega) (by omega))) (by first | rfl | exact nS0 (nA_at (by omega) (by omega))) ?_
                    refine Z_iload (n := 109) dX3_combine_107 rfl rfl ?_
                    refine Z_iald (n := 110) dX3_combine_109 rfl (by first | rfl | exact nS0 (nA_at (by omega) (by omega))) rfl (by first | decide | assumption) (by omega) (by omega) (fun r109 s109 => ?_)
                    try simp only [uz_oo (show (12 : Nat) ≠ 0 by decide)] at r109 s109 ⊢
                    refine Z_goto (t := 114) dX3_combine_110 (by decide) ?_
                    refine Z_iconst (n := 115) dX3_combine_114 rfl (by decide) ?_
                    refine Z_callVi (n := 118) [_, _, _, _] _ dX3_combine_115 rfl cwX3_142 rfl rfl (by first | rfl | exact nS0 (nA_at (by omega) (by omega))) (Nat.le_of_ble_eq_true rfl) (by refine ⟨?_, ?_, ?_, ?_⟩ <;> exact Nat.le_of_ble_eq_true rfl) (fun a h => by unfold kPub at h; unfold kStep; omega) (zX3_kindStep  (by omega) (by omega) (by omega) (by omega) (by omega) (by omega) (by omega) (by omega) (by exact (show pI (uz M 0 8 0) from pI_fr hc.1 (uz_o (by decide)) (uz_o (by decide)) (uz_o (by decide)) (uz_o (by decide))))) ?_
                    intro x115 M115 J115 z115 f115 q115
                    obtain ⟨e115_1, l115, u115, pi115, kn115⟩ := q115
                    replace e115_1 := e115_1.symm; subst e115_1
                    refine Z_callVi (n := 121) [_, _] _ dX3_combine_118 rfl cwX3_133 rfl rfl (by first | rfl | exact nS0 (nA_at (by omega) (by omega))) (Nat.le_of_ble_eq_true rfl) (by refine ⟨?_, ?_, ?_, ?_⟩ <;> exact Nat.le_of_ble_eq_true rfl) (fun a h => by unfold kPub at h; unfold kGive; omega) (zX3_give  (by first | assumption | omega | decide) (by first | assumption | omega | decide) (by first | assumption | omega | decide) (by first | assumption | omega | decide)) ?_
                    intro x118 M118 J118 z118 f118 q118
                    obtain ⟨e118_1, h118⟩ := q118
                    replace e118_1 := e118_1.symm; subst e118_1
                    refine Z_fr (fun frR => ?_)
                    refine Z_iret dX3_combine_121 rfl ?_
                    refine ⟨rfl, cI_mk hc frR (pI_fr pi115 (f118 5 (by decide)).1 (f118 6 (by decide)).1 (f118 10 (by decide)).1 (f118 11 (by decide)).1) (ordOK_fr (show ordOK (uz M 0 8 0) from ordOK_fr hc.2.1 (uz_o (by decide))) (((f118 4 (by decide)).1).trans (f115 4 (by decide)).1)), fun q => ?_⟩
                    first
                      | (have := q f (by omega) (by omega); omega)
                      | (have := q g (by omega) (by omega); omega)
                      | (refine Or.inr (Or.inr (Or.inr ⟨by omega, by omega, by omega, ?_⟩))
                         rcases (show t = 1 ∨ t = 2 by omega) with e | e
                         · have := kn115.1 rfl rfl rfl e; omega
                         · have := kn115.2 rfl rfl rfl e; omega)
              · refine Z_aload_n (n := 65) dX3_combine_64 rfl rfl ?_
                refine Z_iload (n := 67) dX3_combine_65 rfl rfl ?_
                refine Z_callVi (n := 70) [_] _ dX3_combine_67 rfl cwX3_139 rfl rfl (by first | rfl | exact nS0 (nA_at (by omega) (by omega))) (Nat.le_of_ble_eq_true rfl) (by refine ⟨?_, ?_, ?_, ?_⟩ <;> exact Nat.le_of_ble_eq_true rfl) (fun _ _ => trivial) (zX3_hasFunction  ) ?_
                intro x67 M67 J67 z67 f67 q67
                obtain ⟨e67_1, e67_2, h67⟩ := q67
                replace e67_1 := e67_1.symm; subst e67_1
                replace e67_2 := e67_2.symm; subst e67_2
                refine Z_if_ne (n := 73) (t := 75) dX3_combine_70 rfl (by decide) (fun c70 => ?_) (fun c70 => ?_)
                · refine Z_aload_n (n := 76) dX3_combine_75 rfl rfl ?_
                  refine Z_callVv (n := 79) [] _ dX3_combine_76 rfl cwX3_126 rfl rfl (by first | rfl | exact nS0 (nA_at (by omega) (by omega))) (Nat.le_of_ble_eq_true rfl) (by refine ⟨?_, ?_, ?_, ?_⟩ <;> exact Nat.le_of_ble_eq_true rfl) (fun _ h => h) (zX3_beginSteps  (by exact fun h => by unfold kPub at h; omega)) ?_
                  intro M76 J76 f76 q76
                  obtain ⟨e76_1, e76_2⟩ := q76
                  replace e76_1 := e76_1.symm; subst e76_1
                  replace e76_2 := e76_2.symm; subst e76_2
                  refine Z_aload_n (n := 80) dX3_combine_79 rfl rfl ?_
                  refine Z_iload_n (n := 81) dX3_combine_80 rfl rfl ?_
                  refine Z_aload_n (n := 82) dX3_combine_81 rfl rfl ?_
                  refine Z_iload_n (n := 83) dX3_combine_82 rfl rfl ?_
                  refine Z_iload (n := 85) dX3_combine_83 rfl rfl ?_
                  refine Z_if_eq (n := 88) (t := 97) dX3_combine_85 rfl (by decide) (fun c85 => ?_) (fun c85 => ?_)
                  · refine Z_iconst (n := 98) dX3_combine_97 rfl (by decide) ?_
                    refine Z_iload (n := 100) dX3_combine_98 rfl rfl ?_
                    refine Z_if_eq (n := 103) (t := 113) dX3_combine_100 rfl (by decide) (fun c100 => ?_) (fun c100 => ?_)
                    · refine Z_iconst (n := 114) dX3_combine_113 rfl (by decide) ?_
                      refine Z_iconst (n := 115) dX3_combine_114 rfl (by decide) ?_
                      refine Z_callVi (n := 118) [_, _, _, _] _ dX3_combine_115 rfl cwX3_142 rfl rfl (by first | rfl | exact nS0 (nA_at (by omega) (by omega))) (Nat.le_of_ble_eq_true rfl) (by refine ⟨?_, ?_, ?_, ?_⟩ <;> exact Nat.le_of_ble_eq_true rfl) (fun a h => by unfold kPub at h; unfold kStep; omega) (zX3_kindStep  (by omega) (by omega) (by omega) (by omega) (by omega) (by omega) (by omega) (by omega) (by exact (show pI (uz M 0 8 0) from pI_fr hc.1 (uz_o (by decide)) (uz_o (by decide)) (uz_o (by decide)) (uz_o (by decide))))) ?_
                      intro x115 M115 J115 z115 f115 q115
                      obtain ⟨e115_1, l115, u115, pi115, kn115⟩ := q115
                      replace e115_1 := e115_1.symm; subst e115_1
                      refine Z_callVi (n := 121) [_, _] _ dX3_combine_118 rfl cwX3_133 rfl rfl (by first | rfl | exact nS0 (nA_at (by omega) (by omega))) (Nat.le_of_ble_eq_true rfl) (by refine ⟨?_, ?_, ?_, ?_⟩ <;> exact Nat.le_of_ble_eq_true rfl) (fun a h => by unfold kPub at h; unfold kGive; omega) (zX3_give  (by first | assumption | omega | decide) (by first | assumption | omega | decide) (by first | assumption | omega | decide) (by first | assumption | omega | decide)) ?_
                      intro x118 M118 J118 z118 f118 q118
                      obtain ⟨e118_1, h118⟩ := q118
                      replace e118_1 := e118_1.symm; subst e118_1
                      refine Z_fr (fun frR => ?_)
                      refine Z_iret dX3_combine_121 rfl ?_
                      refine ⟨rfl, cI_mk hc frR (pI_fr pi115 (f118 5 (by decide)).1 (f118 6 (by decide)).1 (f118 10 (by decide)).1 (f118 11 (by decide)).1) (ordOK_fr (show ordOK (uz M 0 8 0) from ordOK_fr hc.2.1 (uz_o (by decide))) (((f118 4 (by decide)).1).trans (f115 4 (by decide)).1)), fun q => ?_⟩
                      first
                        | (have := q f (by omega) (by omega); omega)
                        | (have := q g (by omega) (by omega); omega)
                        | (refine Or.inr (Or.inr (Or.inr ⟨by omega, by omega, by omega, ?_⟩))
                           rcases (show t = 1 ∨ t = 2 by omega) with e | e
                           · have := kn115.1 rfl rfl rfl e; omega
                           · have := kn115.2 rfl rfl rfl e; omega)
                    · refine Z_aload_n (n := 104) dX3_combine_103 rfl rfl ?_
                      refine Z_getA (n := 107) dX3_combine_104 rfl ffX3_29 (by first | rfl | exact nS0 (nA_at (by omega) (by omega))) (by first | rfl | exact nS0 (nA_at (by omega) (by omega))) ?_
                      refine Z_iload (n := 109) dX3_combine_107 rfl rfl ?_
                      refine Z_iald (n := 110) dX3_combine_109 rfl (by first | rfl | exact nS0 (nA_at (by omega) (by omega))) rfl (by first | decide | assumption) (by omega) (by omega) (fun r109 s109 => ?_)
                      try simp only [uz_oo (show (12 : Nat) ≠ 0 by decide)] at r109 s109 ⊢
                      refine Z_goto (t := 114) dX3_combine_110 (by decide) ?_
                      refine Z_iconst (n := 115) dX3_combine_114 rfl (by decide) ?_
                      refine Z_callVi (n := 118) [_, _, _, _] _ dX3_combine_115 rfl cwX3_142 rfl rfl (by first | rfl | exact nS0 (nA_at (by omega) (by omega))) (Nat.le_of_ble_eq_true rfl) (by refine ⟨?_, ?_, ?_, ?_⟩ <;> exact Nat.le_of_ble_eq_true rfl) (fun a h => by unfold kPub at h; unfold kStep; omega) (zX3_kindStep  (by omega) (by omega) (by omega) (by omega) (by omega) (by omega) (by omega) (by omega) (by exact (show pI (uz M 0 8 0) from pI_fr hc.1 (uz_o (by decide)) (uz_o (by decide)) (uz_o (by decide)) (uz_o (by decide))))) ?_
                      intro x115 M115 J115 z115 f115 q115
                      obtain ⟨e115_1, l115, u115, pi115, kn115⟩ := q115
                      replace e115_1 := e115_1.symm; subst e115_1
                      refine Z_callVi (n := 121) [_, _] _ dX3_combine_118 rfl cwX3_133 rfl rfl (by first | rfl | exact nS0 (nA_at (by omega) (by omega))) (Nat.le_of_ble_eq_true rfl) (by refine ⟨?_, ?_, ?_, ?_⟩ <;> exact Nat.le_of_ble_eq_true rfl) (fun a h => by unfold kPub at h; unfold kGive; omega) (zX3_give  (by first | assumption | omega | decide) (by first | assumption | omega | decide) (by first | assumption | omega | decide) (by first | assumption | omega | decide)) ?_
                      intro x118 M118 J118 z118 f118 q118
                      obtain ⟨e118_1, h118⟩ := q118
                      replace e118_1 := e118_1.symm; subst e118_1
                      refine Z_fr (fun frR => ?_)
                      refine Z_iret dX3_combine_121 rfl ?_
                      refine ⟨rfl, cI_mk hc frR (pI_fr pi115 (f118 5 (by decide)).1 (f118 6 (by decide)).1 (f118 10 (by decide)).1 (f118 11 (by decide)).1) (ordOK_fr (show ordOK (uz M 0 8 0) from ordOK_fr hc.2.1 (uz_o (by decide))) (((f118 4 (by decide)).1).trans (f115 4 (by decide)).1)), fun q => ?_⟩
                      first
                        | (have := q f (by omega) (by omega); omega)
                        | (have := q g (by omega) (by omega); omega)
                        | (refine Or.inr (Or.inr (Or.inr ⟨by omega, by omega, by omega, ?_⟩))
                           rcases (show t = 1 ∨ t = 2 by omega) with e | e
                           · have := kn115.1 rfl rfl rfl e; omega
                           · have := kn115.2 rfl rfl rfl e; omega)
                  · refine Z_aload_n (n := 89) dX3_combine_88 rfl rfl ?_
                    refine Z_getA (n := 92) dX3_combine_89 rfl ffX3_29 (by first | rfl | exact nS0 (nA_at (by omega) (by omega))) (by first | rfl | exact nS0 (nA_at (by omega) (by omega))) ?_
                    refine Z_iload_n (n := 93) dX3_combine_92 rfl rfl ?_
                    refine Z_iald (n := 94) dX3_combine_93 rfl (by first | rfl | exact nS0 (nA_at (by omega) (by omega))) rfl (by first | decide | assumption) (by omega) (by omega) (fun r93 s93 => ?_)
                    try simp only [uz_oo (show (12 : Nat) ≠ 0 by decide)] at r93 s93 ⊢
                    refine Z_goto (t := 98) dX3_combine_94 (by decide) ?_
                    refine Z_iload (n := 100) dX3_combine_98 rfl rfl ?_
                    refine Z_if_eq (n := 103) (t := 113) dX3_combine_100 rfl (by decide) (fun c100 => ?_) (fun c100 => ?_)
                    · refine Z_iconst (n := 114) dX3_combine_113 rfl (by decide) ?_
                      refine Z_iconst (n := 115) dX3_combine_114 rfl (by decide) ?_
                      refine Z_callVi (n := 118) [_, _, _, _] _ dX3_combine_115 rfl cwX3_142 rfl rfl (by first | rfl | exact nS0 (nA_at (by omega) (by omega))) (Nat.le_of_ble_eq_true rfl) (by refine ⟨?_, ?_, ?_, ?_⟩ <;> exact Nat.le_of_ble_eq_true rfl) (fun a h => by unfold kPub at h; unfold kStep; omega) (zX3_kindStep  (by omega) (by omega) (by omega) (by omega) (by omega) (by omega) (by omega) (by omega) (by exact (show pI (uz M 0 8 0) from pI_fr hc.1 (uz_o (by decide)) (uz_o (by decide)) (uz_o (by decide)) (uz_o (by decide))))) ?_
                      intro x115 M115 J115 z115 f115 q115
                      obtain ⟨e115_1, l115, u115, pi115, kn115⟩ := q115
                      replace e115_1 := e115_1.symm; subst e115_1
                      refine Z_callVi (n := 121) [_, _] _ dX3_combine_118 rfl cwX3_133 rfl rfl (by first | rfl | exact nS0 (nA_at (by omega) (by omega))) (Nat.le_of_ble_eq_true rfl) (by refine ⟨?_, ?_, ?_, ?_⟩ <;> exact Nat.le_of_ble_eq_true rfl) (fun a h => by unfold kPub at h; unfold kGive; omega) (zX3_give  (by first | assumption | omega | decide) (by first | assumption | omega | decide) (by first | assumption | omega | decide) (by first | assumption | omega | decide)) ?_
                      intro x118 M118 J118 z118 f118 q118
                      obtain ⟨e118_1, h118⟩ := q118
                      replace e118_1 := e118_1.symm; subst e118_1
                      refine Z_fr (fun frR => ?_)
                      refine Z_iret dX3_combine_121 rfl ?_
                      refine ⟨rfl, cI_mk hc frR (pI_fr pi115 (f118 5 (by decide)).1 (f118 6 (by decide)).1 (f118 10 (by decide)).1 (f118 11 (by decide)).1) (ordOK_fr (show ordOK (uz M 0 8 0) from ordOK_fr hc.2.1 (uz_o (by decide))) (((f118 4 (by decide)).1).trans (f115 4 (by decide)).1)), fun q => ?_⟩
                      first
                        | (have := q f (by omega) (by omega); omega)
                        | (have := q g (by omega) (by omega); omega)
                        | (refine Or.inr (Or.inr (Or.inr ⟨by omega, by omega, by omega, ?_⟩))
                           rcases (show t = 1 ∨ t = 2 by omega) with e | e
                           · have := kn115.1 rfl rfl rfl e; omega
                           · have := kn115.2 rfl rfl rfl e; omega)
                    · refine Z_aload_n (n := 104) dX3_combine_103 rfl rfl ?_
                      refine Z_getA (n := 107) dX3_combine_104 rfl ffX3_29 (by first | rfl | exact nS0 (nA_at (by omega) (by omega))) (by first | rfl | exact nS0 (nA_at (by omega) (by omega))) ?_
                      refine Z_iload (n := 109) dX3_combine_107 rfl rfl ?_
                      refine Z_iald (n := 110) dX3_combine_109 rfl (by first | rfl | exact nS0 (nA_at (by omega) (by omega))) rfl (by first | decide | assumption) (by omega) (by omega) (fun r109 s109 => ?_)
                      try simp only [uz_oo (show (12 : Nat) ≠ 0 by decide)] at r109 s109 ⊢
                      refine Z_goto (t := 114) dX3_combine_110 (by decide) ?_
                      refine Z_iconst (n := 115) dX3_combine_114 rfl (by decide) ?_
                      refine Z_callVi (n := 118) [_, _, _, _] _ dX3_combine_115 rfl cwX3_142 rfl rfl (by first | rfl | exact nS0 (nA_at (by omega) (by omega))) (Nat.le_of_ble_eq_true rfl) (by refine ⟨?_, ?_, ?_, ?_⟩ <;> exact Nat.le_of_ble_eq_true rfl) (fun a h => by unfold kPub at h; unfold kStep; omega) (zX3_kindStep  (by omega) (by omega) (by omega) (by omega) (by omega) (by omega) (by omega) (by omega) (by exact (show pI (uz M 0 8 0) from pI_fr hc.1 (uz_o (by decide)) (uz_o (by decide)) (uz_o (by decide)) (uz_o (by decide))))) ?_
                      intro x115 M115 J115 z115 f115 q115
                      obtain ⟨e115_1, l115, u115, pi115, kn115⟩ := q115
                      replace e115_1 := e115_1.symm; subst e115_1
                      refine Z_callVi (n := 121) [_, _] _ dX3_combine_118 rfl cwX3_133 rfl rfl (by first | rfl | exact nS0 (nA_at (by omega) (by omega))) (Nat.le_of_ble_eq_true rfl) (by refine ⟨?_, ?_, ?_, ?_⟩ <;> exact Nat.le_of_ble_eq_true rfl) (fun a h => by unfold kPub at h; unfold kGive; omega) (zX3_give  (by first | assumption | omega | decide) (by first | assumption | omega | decide) (by first | assumption | omega | decide) (by first | assumption | omega | decide)) ?_
                      intro x118 M118 J118 z118 f118 q118
                      obtain ⟨e118_1, h118⟩ := q118
                      replace e118_1 := e118_1.symm; subst e118_1
                      refine Z_fr (fun frR => ?_)
                      refine Z_iret dX3_combine_121 rfl ?_
                      refine ⟨rfl, cI_mk hc frR (pI_fr pi115 (f118 5 (by decide)).1 (f118 6 (by decide)).1 (f118 10 (by decide)).1 (f118 11 (by decide)).1) (ordOK_fr (show ordOK (uz M 0 8 0) from ordOK_fr hc.2.1 (uz_o (by decide))) (((f118 4 (by decide)).1).trans (f115 4 (by decide)).1)), fun q => ?_⟩
                      first
                        | (have := q f (by omega) (by omega); omega)
                        | (have := q g (by omega) (by omega); omega)
                        | (refine Or.inr (Or.inr (Or.inr ⟨by omega, by omega, by omega, ?_⟩))
                           rcases (show t = 1 ∨ t = 2 by omega) with e | e
                           · have := kn115.1 rfl rfl rfl e; omega
                           · have := kn115.2 rfl rfl rfl e; omega)
                · refine Z_iconst (n := 74) dX3_combine_73 rfl (by decide) ?_
                  refine Z_iret dX3_combine_74 rfl ?_
                  exact ⟨rfl, hc, fun _ => Or.inr (Or.inr (Or.inl ⟨by omega, by omega, by omega, by omega, rfl⟩))⟩
            · refine Z_aload_n (n := 52) dX3_combine_51 rfl rfl ?_
              refine Z_iload_n (n := 53) dX3_combine_52 rfl rfl ?_
              refine Z_callVi (n := 56) [_] _ dX3_combine_53 rfl cwX3_139 rfl rfl (by first | rfl | exact nS0 (nA_at (by omega) (by omega))) (Nat.le_of_ble_eq_true rfl) (by refine ⟨?_, ?_, ?_, ?_⟩ <;> exact Nat.le_of_ble_eq_true rfl) (fun _ _ => trivial) (zX3_hasFunction  ) ?_
              intro x53 M53 J53 z53 f53 q53
              obtain ⟨e53_1, e53_2, h53⟩ := q53
              replace e53_1 := e53_1.symm; subst e53_1
              replace e53_2 := e53_2.symm; subst e53_2
              refine Z_if_eq (n := 59) (t := 73) dX3_combine_56 rfl (by decide) (fun c56 => ?_) (fun c56 => ?_)
              · refine Z_iconst (n := 74) dX3_combine_73 rfl (by decide) ?_
                refine Z_iret dX3_combine_74 rfl ?_
                exact ⟨rfl, hc, fun _ => Or.inr (Or.inr (Or.inl ⟨by omega, by omega, by omega, by omega, rfl⟩))⟩
              · refine Z_iload (n := 61) dX3_combine_59 rfl rfl ?_
                refine Z_if_eq (n := 64) (t := 75) dX3_combine_61 rfl (by decide) (fun c61 => ?_) (fun c61 => ?_)
                · refine Z_aload_n (n := 76) dX3_combine_75 rfl rfl ?_
                  refine Z_callVv (n := 79) [] _ dX3_combine_76 rfl cwX3_126 rfl rfl (by first | rfl | exact nS0 (nA_at (by omega) (by omega))) (Nat.le_of_ble_eq_true rfl) (by refine ⟨?_, ?_, ?_, ?_⟩ <;> exact Nat.le_of_ble_eq_true rfl) (fun _ h => h) (zX3_beginSteps  (by exact fun h => by unfold kPub at h; omega)) ?_
                  intro M76 J76 f76 q76
                  obtain ⟨e76_1, e76_2⟩ := q76
                  replace e76_1 := e76_1.symm; subst e76_1
                  replace e76_2 := e76_2.symm; subst e76_2
                  refine Z_aload_n (n := 80) dX3_combine_79 rfl rfl ?_
                  refine Z_iload_n (n := 81) dX3_combine_80 rfl rfl ?_
                  refine Z_aload_n (n := 82) dX3_combine_81 rfl rfl ?_
                  refine Z_iload_n (n := 83) dX3_combine_82 rfl rfl ?_
                  refine Z_iload (n := 85) dX3_combine_83 rfl rfl ?_
                  refine Z_if_eq (n := 88) (t := 97) dX3_combine_85 rfl (by decide) (fun c85 => ?_) (fun c85 => ?_)
                  · refine Z_iconst (n := 98) dX3_combine_97 rfl (by decide) ?_
                    refine Z_iload (n := 100) dX3_combine_98 rfl rfl ?_
                    refine Z_if_eq (n := 103) (t := 113) dX3_combine_100 rfl (by decide) (fun c100 => ?_) (fun c100 => ?_)
                    · refine Z_iconst (n := 114) dX3_combine_113 rfl (by decide) ?_
                      refine Z_iconst (n := 115) dX3_combine_114 rfl (by decide) ?_
                      refine Z_callVi (n := 118) [_, _, _, _] _ dX3_combine_115 rfl cwX3_142 rfl rfl (by first | rfl | exact nS0 (nA_at (by omega) (by omega))) (Nat.le_of_ble_eq_true rfl) (by refine ⟨?_, ?_, ?_, ?_⟩ <;> exact Nat.le_of_ble_eq_true rfl) (fun a h => by unfold kPub at h; unfold kStep; omega) (zX3_kindStep  (by omega) (by omega) (by omega) (by omega) (by omega) (by omega) (by omega) (by omega) (by exact (show pI (uz M 0 8 0) from pI_fr hc.1 (uz_o (by decide)) (uz_o (by decide)) (uz_o (by decide)) (uz_o (by decide))))) ?_
                      intro x115 M115 J115 z115 f115 q115
                      obtain ⟨e115_1, l115, u115, pi115, kn115⟩ := q115
                      replace e115_1 := e115_1.symm; subst e115_1
                      refine Z_callVi (n := 121) [_, _] _ dX3_combine_118 rfl cwX3_133 rfl rfl (by first | rfl | exact nS0 (nA_at (by omega) (by omega))) (Nat.le_of_ble_eq_true rfl) (by refine ⟨?_, ?_, ?_, ?_⟩ <;> exact Nat.le_of_ble_eq_true rfl) (fun a h => by unfold kPub at h; unfold kGive; omega) (zX3_give  (by first | assumption | omega | decide) (by first | assumption | omega | decide) (by first | assumption | omega | decide) (by first | assumption | omega | decide)) ?_
                      intro x118 M118 J118 z118 f118 q118
                      obtain ⟨e118_1, h118⟩ := q118
                      replace e118_1 := e118_1.symm; subst e118_1
                      refine Z_fr (fun frR => ?_)
                      refine Z_iret dX3_combine_121 rfl ?_
                      refine ⟨rfl, cI_mk hc frR (pI_fr pi115 (f118 5 (by decide)).1 (f118 6 (by decide)).1 (f118 10 (by decide)).1 (f118 11 (by decide)).1) (ordOK_fr (show ordOK (uz M 0 8 0) from ordOK_fr hc.2.1 (uz_o (by decide))) (((f118 4 (by decide)).1).trans (f115 4 (by decide)).1)), fun q => ?_⟩
                      first
                        | (have := q f (by omega) (by omega); omega)
                        | (have := q g (by omega) (by omega); omega)
                        | (refine Or.inr (Or.inr (Or.inr ⟨by omega, by omega, by omega, ?_⟩))
                           rcases (show t = 1 ∨ t = 2 by omega) with e | e
                           · have := kn115.1 rfl rfl rfl e; omega
                           · have := kn115.2 rfl rfl rfl e; omega)
                    · refine Z_aload_n (n := 104) dX3_combine_103 rfl rfl ?_
                      refine Z_getA (n := 107) dX3_combine_104 rfl ffX3_29 (by first | rfl | exact nS0 (nA_at (by omega) (by omega))) (by first | rfl | exact nS0 (nA_at (by omega) (by omega))) ?_
                      refine Z_iload (n := 109) dX3_combine_107 rfl rfl ?_
                      refine Z_iald (n := 110) dX3_combine_109 rfl (by first | rfl | exact nS0 (nA_at (by omega) (by omega))) rfl (by first | decide | assumption) (by omega) (by omega) (fun r109 s109 => ?_)
                      try simp only [uz_oo (show (12 : Nat) ≠ 0 by decide)] at r109 s109 ⊢
                      refine Z_goto (t := 114) dX3_combine_110 (by decide) ?_
                      refine Z_iconst (n := 115) dX3_combine_114 rfl (by decide) ?_
                      refine Z_callVi (n := 118) [_, _, _, _] _ dX3_combine_115 rfl cwX3_142 rfl rfl (by first | rfl | exact nS0 (nA_at (by omega) (by omega))) (Nat.le_of_ble_eq_true rfl) (by refine ⟨?_, ?_, ?_, ?_⟩ <;> exact Nat.le_of_ble_eq_true rfl) (fun a h => by unfold kPub at h; unfold kStep; omega) (zX3_kindStep  (by omega) (by omega) (by omega) (by omega) (by omega) (by omega) (by omega) (by omega) (by exact (show pI (uz M 0 8 0) from pI_fr hc.1 (uz_o (by decide)) (uz_o (by decide)) (uz_o (by decide)) (uz_o (by decide))))) ?_
                      intro x115 M115 J115 z115 f115 q115
                      obtain ⟨e115_1, l115, u115, pi115, kn115⟩ := q115
                      replace e115_1 := e115_1.symm; subst e115_1
                      refine Z_callVi (n := 121) [_, _] _ dX3_combine_118 rfl cwX3_133 rfl rfl (by first | rfl | exact nS0 (nA_at (by omega) (by omega))) (Nat.le_of_ble_eq_true rfl) (by refine ⟨?_, ?_, ?_, ?_⟩ <;> exact Nat.le_of_ble_eq_true rfl) (fun a h => by unfold kPub at h; unfold kGive; omega) (zX3_give  (by first | assumption | omega | decide) (by first | assumption | omega | decide) (by first | assumption | omega | decide) (by first | assumption | omega | decide)) ?_
                      intro x118 M118 J118 z118 f118 q118
                      obtain ⟨e118_1, h118⟩ := q118
                      replace e118_1 := e118_1.symm; subst e118_1
                      refine Z_fr (fun frR => ?_)
                      refine Z_iret dX3_combine_121 rfl ?_
                      refine ⟨rfl, cI_mk hc frR (pI_fr pi115 (f118 5 (by decide)).1 (f118 6 (by decide)).1 (f118 10 (by decide)).1 (f118 11 (by decide)).1) (ordOK_fr (show ordOK (uz M 0 8 0) from ordOK_fr hc.2.1 (uz_o (by decide))) (((f118 4 (by decide)).1).trans (f115 4 (by decide)).1)), fun q => ?_⟩
                      first
                        | (have := q f (by omega) (by omega); omega)
                        | (have := q g (by omega) (by omega); omega)
                        | (refine Or.inr (Or.inr (Or.inr ⟨by omega, by omega, by omega, ?_⟩))
                           rcases (show t = 1 ∨ t = 2 by omega) with e | e
                           · have := kn115.1 rfl rfl rfl e; omega
                           · have := kn115.2 rfl rfl rfl e; omega)
                  · refine Z_aload_n (n := 89) dX3_combine_88 rfl rfl ?_
                    refine Z_getA (n := 92) dX3_combine_89 rfl ffX3_29 (by first | rfl | exact nS0 (nA_at (by omega) (by omega))) (by first | rfl | exact nS0 (nA_at (by omega) (by omega))) ?_
                    refine Z_iload_n (n := 93) dX3_combine_92 rfl rfl ?_
                    refine Z_iald (n := 94) dX3_combine_93 rfl (by first | rfl | exact nS0 (nA_at (by omega) (by omega))) rfl (by first | decide | assumption) (by omega) (by omega) (fun r93 s93 => ?_)
                    try simp only [uz_oo (show (12 : Nat) ≠ 0 by decide)] at r93 s93 ⊢
                    refine Z_goto (t := 98) dX3_combine_94 (by decide) ?_
                    refine Z_iload (n := 100) dX3_combine_98 rfl rfl ?_
                    refine Z_if_eq (n := 103) (t := 113) dX3_combine_100 rfl (by decide) (fun c100 => ?_) (fun c100 => ?_)
                    · refine Z_iconst (n := 114) dX3_combine_113 rfl (by decide) ?_
                      refine Z_iconst (n := 115) dX3_combine_114 rfl (by decide) ?_
                      refine Z_callVi (n := 118) [_, _, _, _] _ dX3_combine_115 rfl cwX3_142 rfl rfl (by first | rfl | exact nS0 (nA_at (by omega) (by omega))) (Nat.le_of_ble_eq_true rfl) (by refine ⟨?_, ?_, ?_, ?_⟩ <;> exact Nat.le_of_ble_eq_true rfl) (fun a h => by unfold kPub at h; unfold kStep; omega) (zX3_kindStep  (by omega) (by omega) (by omega) (by omega) (by omega) (by omega) (by omega) (by omega) (by exact (show pI (uz M 0 8 0) from pI_fr hc.1 (uz_o (by decide)) (uz_o (by decide)) (uz_o (by decide)) (uz_o (by decide))))) ?_
                      intro x115 M115 J115 z115 f115 q115
                      obtain ⟨e115_1, l115, u115, pi115, kn115⟩ := q115
                      replace e115_1 := e115_1.symm; subst e115_1
                      refine Z_callVi (n := 121) [_, _] _ dX3_combine_118 rfl cwX3_133 rfl rfl (by first | rfl | exact nS0 (nA_at (by omega) (by omega))) (Nat.le_of_ble_eq_true rfl) (by refine ⟨?_, ?_, ?_, ?_⟩ <;> exact Nat.le_of_ble_eq_true rfl) (fun a h => by unfold kPub at h; unfold kGive; omega) (zX3_give  (by first | assumption | omega | decide) (by first | assumption | omega | decide) (by first | assumption | omega | decide) (by first | assumption | omega | decide)) ?_
                      intro x118 M118 J118 z118 f118 q118
                      obtain ⟨e118_1, h118⟩ := q118
                      replace e118_1 := e118_1.symm; subst e118_1
                      refine Z_fr (fun frR => ?_)
                      refine Z_iret dX3_combine_121 rfl ?_
                      refine ⟨rfl, cI_mk hc frR (pI_fr pi115 (f118 5 (by decide)).1 (f118 6 (by decide)).1 (f118 10 (by decide)).1 (f118 11 (by decide)).1) (ordOK_fr (show ordOK (uz M 0 8 0) from ordOK_fr hc.2.1 (uz_o (by decide))) (((f118 4 (by decide)).1).trans (f115 4 (by decide)).1)), fun q => ?_⟩
                      first
                        | (have := q f (by omega) (by omega); omega)
                        | (have := q g (by omega) (by omega); omega)
                        | (refine Or.inr (Or.inr (Or.inr ⟨by omega, by omega, by omega, ?_⟩))
                           rcases (show t = 1 ∨ t = 2 by omega) with e | e
                           · have := kn115.1 rfl rfl rfl e; omega
                           · have := kn115.2 rfl rfl rfl e; omega)
                    · refine Z_aload_n (n := 104) dX3_combine_103 rfl rfl ?_
                      refine Z_getA (n := 107) dX3_combine_104 rfl ffX3_29 (by first | rfl | exact nS0 (nA_at (by omega) (by omega))) (by first | rfl | exact nS0 (nA_at (by omega) (by omega))) ?_
                      refine Z_iload (n := 109) dX3_combine_107 rfl rfl ?_
                      refine Z_iald (n := 110) dX3_combine_109 rfl (by first | rfl | exact nS0 (nA_at (by omega) (by omega))) rfl (by first | decide | assumption) (by omega) (by omega) (fun r109 s109 => ?_)
                      try simp only [uz_oo (show (12 : Nat) ≠ 0 by decide)] at r109 s109 ⊢
                      refine Z_goto (t := 114) dX3_combine_110 (by decide) ?_
                      refine Z_iconst (n := 115) dX3_combine_114 rfl (by decide) ?_
                      refine Z_callVi (n := 118) [_, _, _, _] _ dX3_combine_115 rfl cwX3_142 rfl rfl (by first | rfl | exact nS0 (nA_at (by omega) (by omega))) (Nat.le_of_ble_eq_true rfl) (by refine ⟨?_, ?_, ?_, ?_⟩ <;> exact Nat.le_of_ble_eq_true rfl) (fun a h => by unfold kPub at h; unfold kStep; omega) (zX3_kindStep  (by omega) (by omega) (by omega) (by omega) (by omega) (by omega) (by omega) (by omega) (by exact (show pI (uz M 0 8 0) from pI_fr hc.1 (uz_o (by decide)) (uz_o (by decide)) (uz_o (by decide)) (uz_o (by decide))))) ?_
                      intro x115 M115 J115 z115 f115 q115
                      obtain ⟨e115_1, l115, u115, pi115, kn115⟩ := q115
                      replace e115_1 := e115_1.symm; subst e115_1
                      refine Z_callVi (n := 121) [_, _] _ dX3_combine_118 rfl cwX3_133 rfl rfl (by first | rfl | exact nS0 (nA_at (by omega) (by omega))) (Nat.le_of_ble_eq_true rfl) (by refine ⟨?_, ?_, ?_, ?_⟩ <;> exact Nat.le_of_ble_eq_true rfl) (fun a h => by unfold kPub at h; unfold kGive; omega) (zX3_give  (by first | assumption | omega | decide) (by first | assumption | omega | decide) (by first | assumption | omega | decide) (by first | assumption | omega | decide)) ?_
                      intro x118 M118 J118 z118 f118 q118
                      obtain ⟨e118_1, h118⟩ := q118
                      replace e118_1 := e118_1.symm; subst e118_1
                      refine Z_fr (fun frR => ?_)
                      refine Z_iret dX3_combine_121 rfl ?_
                      refine ⟨rfl, cI_mk hc frR (pI_fr pi115 (f118 5 (by decide)).1 (f118 6 (by decide)).1 (f118 10 (by decide)).1 (f118 11 (by decide)).1) (ordOK_fr (show ordOK (uz M 0 8 0) from ordOK_fr hc.2.1 (uz_o (by decide))) (((f118 4 (by decide)).1).trans (f115 4 (by decide)).1)), fun q => ?_⟩
                      first
                        | (have := q f (by omega) (by omega); omega)
                        | (have := q g (by omega) (by omega); omega)
                        | (refine Or.inr (Or.inr (Or.inr ⟨by omega, by omega, by omega, ?_⟩))
                           rcases (show t = 1 ∨ t = 2 by omega) with e | e
                           · have := kn115.1 rfl rfl rfl e; omega
                           · have := kn115.2 rfl rfl rfl e; omega)
                · refine Z_aload_n (n := 65) dX3_combine_64 rfl rfl ?_
                  refine Z_iload (n := 67) dX3_combine_65 rfl rfl ?_
                  refine Z_callVi (n := 70) [_] _ dX3_combine_67 rfl cwX3_139 rfl rfl (by first | rfl | exact nS0 (nA_at (by omega) (by omega))) (Nat.le_of_ble_eq_true rfl) (by refine ⟨?_, ?_, ?_, ?_⟩ <;> exact Nat.le_of_ble_eq_true rfl) (fun _ _ => trivial) (zX3_hasFunction  ) ?_
                  intro x67 M67 J67 z67 f67 q67
                  obtain ⟨e67_1, e67_2, h67⟩ := q67
                  replace e67_1 := e67_1.symm; subst e67_1
                  replace e67_2 := e67_2.symm; subst e67_2
                  refine Z_if_ne (n := 73) (t := 75) dX3_combine_70 rfl (by decide) (fun c70 => ?_) (fun c70 => ?_)
                  · refine Z_aload_n (n := 76) dX3_combine_75 rfl rfl ?_
                    refine Z_callVv (n := 79) [] _ dX3_combine_76 rfl cwX3_126 rfl rfl (by first | rfl | exact nS0 (nA_at (by omega) (by omega))) (Nat.le_of_ble_eq_true rfl) (by refine ⟨?_, ?_, ?_, ?_⟩ <;> exact Nat.le_of_ble_eq_true rfl) (fun _ h => h) (zX3_beginSteps  (by exact fun h => by unfold kPub at h; omega)) ?_
                    intro M76 J76 f76 q76
                    obtain ⟨e76_1, e76_2⟩ := q76
                    replace e76_1 := e76_1.symm; subst e76_1
                    replace e76_2 := e76_2.symm; subst e76_2
                    refine Z_aload_n (n := 80) dX3_combine_79 rfl rfl ?_
                    refine Z_iload_n (n := 81) dX3_combine_80 rfl rfl ?_
                    refine Z_aload_n (n := 82) dX3_combine_81 rfl rfl ?_
                    refine Z_iload_n (n := 83) dX3_combine_82 rfl rfl ?_
                    refine Z_iload (n := 85) dX3_combine_83 rfl rfl ?_
                    refine Z_if_eq (n := 88) (t := 97) dX3_combine_85 rfl (by decide) (fun c85 => ?_) (fun c85 => ?_)
                    · refine Z_iconst (n := 98) dX3_combine_97 rfl (by decide) ?_
                      refine Z_iload (n := 100) dX3_combine_98 rfl rfl ?_
                      refine Z_if_eq (n := 103) (t := 113) dX3_combine_100 rfl (by decide) (fun c100 => ?_) (fun c100 => ?_)
                      · refine Z_iconst (n := 114) dX3_combine_113 rfl (by decide) ?_
                        refine Z_iconst (n := 115) dX3_combine_114 rfl (by decide) ?_
                        refine Z_callVi (n := 118) [_, _, _, _] _ dX3_combine_115 rfl cwX3_142 rfl rfl (by first | rfl | exact nS0 (nA_at (by omega) (by omega))) (Nat.le_of_ble_eq_true rfl) (by refine ⟨?_, ?_, ?_, ?_⟩ <;> exact Nat.le_of_ble_eq_true rfl) (fun a h => by unfold kPub at h; unfold kStep; omega) (zX3_kindStep  (by omega) (by omega) (by omega) (by omega) (by omega) (by omega) (by omega) (by omega) (by exact (show pI (uz M 0 8 0) from pI_fr hc.1 (uz_o (by decide)) (uz_o (by decide)) (uz_o (by decide)) (uz_o (by decide))))) ?_
                        intro x115 M115 J115 z115 f115 q115
                        obtain ⟨e115_1, l115, u115, pi115, kn115⟩ := q115
                        replace e115_1 := e115_1.symm; subst e115_1
                        refine Z_callVi (n := 121) [_, _] _ dX3_combine_118 rfl cwX3_133 rfl rfl (by first | rfl | exact nS0 (nA_at (by omega) (by omega))) (Nat.le_of_ble_eq_true rfl) (by refine ⟨?_, ?_, ?_, ?_⟩ <;> exact Nat.le_of_ble_eq_true rfl) (fun a h => by unfold kPub at h; unfold kGive; omega) (zX3_give  (by first | assumption | omega | decide) (by first | assumption | omega | decide) (by first | assumption | omega | decide) (by first | assumption | omega | decide)) ?_
                        intro x118 M118 J118 z118 f118 q118
                        obtain ⟨e118_1, h118⟩ := q118
                        replace e118_1 := e118_1.symm; subst e118_1
                        refine Z_fr (fun frR => ?_)
                        refine Z_iret dX3_combine_121 rfl ?_
                        refine ⟨rfl, cI_mk hc frR (pI_fr pi115 (f118 5 (by decide)).1 (f118 6 (by decide)).1 (f118 10 (by decide)).1 (f118 11 (by decide)).1) (ordOK_fr (show ordOK (uz M 0 8 0) from ordOK_fr hc.2.1 (uz_o (by decide))) (((f118 4 (by decide)).1).trans (f115 4 (by decide)).1)), fun q => ?_⟩
                        first
                          | (have := q f (by omega) (by omega); omega)
                          | (have := q g (by omega) (by omega); omega)
                          | (refine Or.inr (Or.inr (Or.inr ⟨by omega, by omega, by omega, ?_⟩))
                             rcases (show t = 1 ∨ t = 2 by omega) with e | e
                             · have := kn115.1 rfl rfl rfl e; omega
                             · have := kn115.2 rfl rfl rfl e; omega)
                      · refine Z_aload_n (n := 104) dX3_combine_103 rfl rfl ?_
                        refine Z_getA (n := 107) dX3_combine_104 rfl ffX3_29 (by first | rfl | exact nS0 (nA_at (by omega) (by omega))) (by first | rfl | exact nS0 (nA_at (by omega) (by omega))) ?_
                        refine Z_iload (n := 109) dX3_combine_107 rfl rfl ?_
                        refine Z_iald (n := 110) dX3_combine_109 rfl (by first | rfl | exact nS0 (nA_at (by omega) (by omega))) rfl (by first | decide | assumption) (by omega) (by omega) (fun r109 s109 => ?_)
                        try simp only [uz_oo (show (12 : Nat) ≠ 0 by decide)] at r109 s109 ⊢
                        refine Z_goto (t := 114) dX3_combine_110 (by decide) ?_
                        refine Z_iconst (n := 115) dX3_combine_114 rfl (by decide) ?_
                        refine Z_callVi (n := 118) [_, _, _, _] _ dX3_combine_115 rfl cwX3_142 rfl rfl (by first | rfl | exact nS0 (nA_at (by omega) (by omega))) (Nat.le_of_ble_eq_true rfl) (by refine ⟨?_, ?_, ?_, ?_⟩ <;> exact Nat.le_of_ble_eq_true rfl) (fun a h => by unfold kPub at h; unfold kStep; omega) (zX3_kindStep  (by omega) (by omega) (by omega) (by omega) (by omega) (by omega) (by omega) (by omega) (by exact (show pI (uz M 0 8 0) from pI_fr hc.1 (uz_o (by decide)) (uz_o (by decide)) (uz_o (by decide)) (uz_o (by decide))))) ?_
                        intro x115 M115 J115 z115 f115 q115
                        obtain ⟨e115_1, l115, u115, pi115, kn115⟩ := q115
                        replace e115_1 := e115_1.symm; subst e115_1
                        refine Z_callVi (n := 121) [_, _] _ dX3_combine_118 rfl cwX3_133 rfl rfl (by first | rfl | exact nS0 (nA_at (by omega) (by omega))) (Nat.le_of_ble_eq_true rfl) (by refine ⟨?_, ?_, ?_, ?_⟩ <;> exact Nat.le_of_ble_eq_true rfl) (fun a h => by unfold kPub at h; unfold kGive; omega) (zX3_give  (by first | assumption | omega | decide) (by first | assumption | omega | decide) (by first | assumption | omega | decide) (by first | assumption | omega | decide)) ?_
                        intro x118 M118 J118 z118 f118 q118
                        obtain ⟨e118_1, h118⟩ := q118
                        replace e118_1 := e118_1.symm; subst e118_1
                        refine Z_fr (fun frR => ?_)
                        refine Z_iret dX3_combine_121 rfl ?_
                        refine ⟨rfl, cI_mk hc frR (pI_fr pi115 (f118 5 (by decide)).1 (f118 6 (by decide)).1 (f118 10 (by decide)).1 (f118 11 (by decide)).1) (ordOK_fr (show ordOK (uz M 0 8 0) from ordOK_fr hc.2.1 (uz_o (by decide))) (((f118 4 (by decide)).1).trans (f115 4 (by decide)).1)), fun q => ?_⟩
                        first
                          | (have := q f (by omega) (by omega); omega)
                          | (have := q g (by omega) (by omega); omega)
                          | (refine Or.inr (Or.inr (Or.inr ⟨by omega, by omega, by omega, ?_⟩))
                             rcases (show t = 1 ∨ t = 2 by omega) with e | e
                             · have := kn115.1 rfl rfl rfl e; omega
                             · have := kn115.2 rfl rfl rfl e; omega)
                    · refine Z_aload_n (n := 89) dX3_combine_88 rfl rfl ?_
                      refine Z_getA (n := 92) dX3_combine_89 rfl ffX3_29 (by first | rfl | exact nS0 (nA_at (by omega) (by omega))) (by first | rfl | exact nS0 (nA_at (by omega) (by omega))) ?_
                      refine Z_iload_n (n := 93) dX3_combine_92 rfl rfl ?_
                      refine Z_iald (n := 94) dX3_combine_93 rfl (by first | rfl | exact nS0 (nA_at (by omega) (by omega))) rfl (by first | decide | assumption) (by omega) (by omega) (fun r93 s93 => ?_)
                      try simp only [uz_oo (show (12 : Nat) ≠ 0 by decide)] at r93 s93 ⊢
                      refine Z_goto (t := 98) dX3_combine_94 (by decide) ?_
                      refine Z_iload (n := 100) dX3_combine_98 rfl rfl ?_
                      refine Z_if_eq (n := 103) (t := 113) dX3_combine_100 rfl (by decide) (fun c100 => ?_) (fun c100 => ?_)
                      · refine Z_iconst (n := 114) dX3_combine_113 rfl (by decide) ?_
                        refine Z_iconst (n := 115) dX3_combine_114 rfl (by decide) ?_
                        refine Z_callVi (n := 118) [_, _, _, _] _ dX3_combine_115 rfl cwX3_142 rfl rfl (by first | rfl | exact nS0 (nA_at (by omega) (by omega))) (Nat.le_of_ble_eq_true rfl) (by refine ⟨?_, ?_, ?_, ?_⟩ <;> exact Nat.le_of_ble_eq_true rfl) (fun a h => by unfold kPub at h; unfold kStep; omega) (zX3_kindStep  (by omega) (by omega) (by omega) (by omega) (by omega) (by omega) (by omega) (by omega) (by exact (show pI (uz M 0 8 0) from pI_fr hc.1 (uz_o (by decide)) (uz_o (by decide)) (uz_o (by decide)) (uz_o (by decide))))) ?_
                        intro x115 M115 J115 z115 f115 q115
                        obtain ⟨e115_1, l115, u115, pi115, kn115⟩ := q115
                        replace e115_1 := e115_1.symm; subst e115_1
                        refine Z_callVi (n := 121) [_, _] _ dX3_combine_118 rfl cwX3_133 rfl rfl (by first | rfl | exact nS0 (nA_at (by omega) (by omega))) (Nat.le_of_ble_eq_true rfl) (by refine ⟨?_, ?_, ?_, ?_⟩ <;> exact Nat.le_of_ble_eq_true rfl) (fun a h => by unfold kPub at h; unfold kGive; omega) (zX3_give  (by first | assumption | omega | decide) (by first | assumption | omega | decide) (by first | assumption | omega | decide) (by first | assumption | omega | decide)) ?_
                        intro x118 M118 J118 z118 f118 q118
                        obtain ⟨e118_1, h118⟩ := q118
                        replace e118_1 := e118_1.symm; subst e118_1
                        refine Z_fr (fun frR => ?_)
                        refine Z_iret dX3_combine_121 rfl ?_
                        refine ⟨rfl, cI_mk hc frR (pI_fr pi115 (f118 5 (by decide)).1 (f118 6 (by decide)).1 (f118 10 (by decide)).1 (f118 11 (by decide)).1) (ordOK_fr (show ordOK (uz M 0 8 0) from ordOK_fr hc.2.1 (uz_o (by decide))) (((f118 4 (by decide)).1).trans (f115 4 (by decide)).1)), fun q => ?_⟩
                        first
                          | (have := q f (by omega) (by omega); omega)
                          | (have := q g (by omega) (by omega); omega)
                          | (refine Or.inr (Or.inr (Or.inr ⟨by omega, by omega, by omega, ?_⟩))
                             rcases (show t = 1 ∨ t = 2 by omega) with e | e
                             · have := kn115.1 rfl rfl rfl e; omega
                             · have := kn115.2 rfl rfl rfl e; omega)
                      · refine Z_aload_n (n := 104) dX3_combine_103 rfl rfl ?_
                        refine Z_getA (n := 107) dX3_combine_104 rfl ffX3_29 (by first | rfl | exact nS0 (nA_at (by omega) (by omega))) (by first | rfl | exact nS0 (nA_at (by omega) (by omega))) ?_
                        refine Z_iload (n := 109) dX3_combine_107 rfl rfl ?_
                        refine Z_iald (n := 110) dX3_combine_109 rfl (by first | rfl | exact nS0 (nA_at (by omega) (by omega))) rfl (by first | decide | assumption) (by omega) (by omega) (fun r109 s109 => ?_)
                        try simp only [uz_oo (show (12 : Nat) ≠ 0 by decide)] at r109 s109 ⊢
                        refine Z_goto (t := 114) dX3_combine_110 (by decide) ?_
                        refine Z_iconst (n := 115) dX3_combine_114 rfl (by decide) ?_
                        refine Z_callVi (n := 118) [_, _, _, _] _ dX3_combine_115 rfl cwX3_142 rfl rfl (by first | rfl | exact nS0 (nA_at (by omega) (by omega))) (Nat.le_of_ble_eq_true rfl) (by refine ⟨?_, ?_, ?_, ?_⟩ <;> exact Nat.le_of_ble_eq_true rfl) (fun a h => by unfold kPub at h; unfold kStep; omega) (zX3_kindStep  (by omega) (by omega) (by omega) (by omega) (by omega) (by omega) (by omega) (by omega) (by exact (show pI (uz M 0 8 0) from pI_fr hc.1 (uz_o (by decide)) (uz_o (by decide)) (uz_o (by decide)) (uz_o (by decide))))) ?_
                        intro x115 M115 J115 z115 f115 q115
                        obtain ⟨e115_1, l115, u115, pi115, kn115⟩ := q115
                        replace e115_1 := e115_1.symm; subst e115_1
                        refine Z_callVi (n := 121) [_, _] _ dX3_combine_118 rfl cwX3_133 rfl rfl (by first | rfl | exact nS0 (nA_at (by omega) (by omega))) (Nat.le_of_ble_eq_true rfl) (by refine ⟨?_, ?_, ?_, ?_⟩ <;> exact Nat.le_of_ble_eq_true rfl) (fun a h => by unfold kPub at h; unfold kGive; omega) (zX3_give  (by first | assumption | omega | decide) (by first | assumption | omega | decide) (by first | assumption | omega | decide) (by first | assumption | omega | decide)) ?_
                        intro x118 M118 J118 z118 f118 q118
                        obtain ⟨e118_1, h118⟩ := q118
                        replace e118_1 := e118_1.symm; subst e118_1
                        refine Z_fr (fun frR => ?_)
                        refine Z_iret dX3_combine_121 rfl ?_
                        refine ⟨rfl, cI_mk hc frR (pI_fr pi115 (f118 5 (by decide)).1 (f118 6 (by decide)).1 (f118 10 (by decide)).1 (f118 11 (by decide)).1) (ordOK_fr (show ordOK (uz M 0 8 0) from ordOK_fr hc.2.1 (uz_o (by decide))) (((f118 4 (by decide)).1).trans (f115 4 (by decide)).1)), fun q => ?_⟩
                        first
                          | (have := q f (by omega) (by omega); omega)
                          | (have := q g (by omega) (by omega); omega)
                          | (refine Or.inr (Or.inr (Or.inr ⟨by omega, by omega, by omega, ?_⟩))
                             rcases (show t = 1 ∨ t = 2 by omega) with e | e
                             · have := kn115.1 rfl rfl rfl e; omega
                             · have := kn115.2 rfl rfl rfl e; omega)
                  · refine Z_iconst (n := 74) dX3_combine_73 rfl (by decide) ?_
                    refine Z_iret dX3_combine_74 rfl ?_
                    exact ⟨rfl, hc, fun _ => Or.inr (Or.inr (Or.inl ⟨by omega, by omega, by omega, by omega, rfl⟩))⟩
          · refine Z_iconst (n := 40) dX3_combine_39 rfl (by decide) ?_
            refine Z_goto (t := 44) dX3_combine_40 (by decide) ?_
            refine Z_istore (L' := [_, _, _, _, _, _, _]) (n := 46) dX3_combine_44 rfl (by decide) rfl rfl ?_
            refine Z_iload (n := 48) dX3_combine_46 rfl rfl ?_
            refine Z_if_eq (n := 51) (t := 59) dX3_combine_48 rfl (by decide) (fun c48 => ?_) (fun c48 => ?_)
            · refine Z_iload (n := 61) dX3_combine_59 rfl rfl ?_
              refine Z_if_eq (n := 64) (t := 75) dX3_combine_61 rfl (by decide) (fun c61 => ?_) (fun c61 => ?_)
              · refine Z_aload_n (n := 76) dX3_combine_75 rfl rfl ?_
                refine Z_callVv (n := 79) [] _ dX3_combine_76 rfl cwX3_126 rfl rfl (by first | rfl | exact nS0 (nA_at (by omega) (by omega))) (Nat.le_of_ble_eq_true rfl) (by refine ⟨?_, ?_, ?_, ?_⟩ <;> exact Nat.le_of_ble_eq_true rfl) (fun _ h => h) (zX3_beginSteps  (by exact fun h => by unfold kPub at h; omega)) ?_
                intro M76 J76 f76 q76
                obtain ⟨e76_1, e76_2⟩ := q76
                replace e76_1 := e76_1.symm; subst e76_1
                replace e76_2 := e76_2.symm; subst e76_2
                refine Z_aload_n (n := 80) dX3_combine_79 rfl rfl ?_
                refine Z_iload_n (n := 81) dX3_combine_80 rfl rfl ?_
                refine Z_aload_n (n := 82) dX3_combine_81 rfl rfl ?_
                refine Z_iload_n (n := 83) dX3_combine_82 rfl rfl ?_
                refine Z_iload (n := 85) dX3_combine_83 rfl rfl ?_
                refine Z_if_eq (n := 88) (t := 97) dX3_combine_85 rfl (by decide) (fun c85 => ?_) (fun c85 => ?_)
                · refine Z_iconst (n := 98) dX3_combine_97 rfl (by decide) ?_
                  refine Z_iload (n := 100) dX3_combine_98 rfl rfl ?_
                  refine Z_if_eq (n := 103) (t := 113) dX3_combine_100 rfl (by decide) (fun c100 => ?_) (fun c100 => ?_)
                  · refine Z_iconst (n := 114) dX3_combine_113 rfl (by decide) ?_
                    refine Z_iconst (n := 115) dX3_combine_114 rfl (by decide) ?_
                    refine Z_callVi (n := 118) [_, _, _, _] _ dX3_combine_115 rfl cwX3_142 rfl rfl (by first | rfl | exact nS0 (nA_at (by omega) (by omega))) (Nat.le_of_ble_eq_true rfl) (by refine ⟨?_, ?_, ?_, ?_⟩ <;> exact Nat.le_of_ble_eq_true rfl) (fun a h => by unfold kPub at h; unfold kStep; omega) (zX3_kindStep  (by omega) (by omega) (by omega) (by omega) (by omega) (by omega) (by omega) (by omega) (by exact (show pI (uz M 0 8 0) from pI_fr hc.1 (uz_o (by decide)) (uz_o (by decide)) (uz_o (by decide)) (uz_o (by decide))))) ?_
                    intro x115 M115 J115 z115 f115 q115
                    obtain ⟨e115_1, l115, u115, pi115, kn115⟩ := q115
                    replace e115_1 := e115_1.symm; subst e115_1
                    refine Z_callVi (n := 121) [_, _] _ dX3_combine_118 rfl cwX3_133 rfl rfl (by first | rfl | exact nS0 (nA_at (by omega) (by omega))) (Nat.le_of_ble_eq_true rfl) (by refine ⟨?_, ?_, ?_, ?_⟩ <;> exact Nat.le_of_ble_eq_true rfl) (fun a h => by unfold kPub at h; unfold kGive; omega) (zX3_give  (by first | assumption | omega | decide) (by first | assumption | omega | decide) (by first | assumption | omega | decide) (by first | assumption | omega | decide)) ?_
                    intro x118 M118 J118 z118 f118 q118
                    obtain ⟨e118_1, h118⟩ := q118
                    replace e118_1 := e118_1.symm; subst e118_1
                    refine Z_fr (fun frR => ?_)
                    refine Z_iret dX3_combine_121 rfl ?_
                    refine ⟨rfl, cI_mk hc frR (pI_fr pi115 (f118 5 (by decide)).1 (f118 6 (by decide)).1 (f118 10 (by decide)).1 (f118 11 (by decide)).1) (ordOK_fr (show ordOK (uz M 0 8 0) from ordOK_fr hc.2.1 (uz_o (by decide))) (((f118 4 (by decide)).1).trans (f115 4 (by decide)).1)), fun q => ?_⟩
                    first
                      | (have := q f (by omega) (by omega); omega)
                      | (have := q g (by omega) (by omega); omega)
                      | (refine Or.inr (Or.inr (Or.inr ⟨by omega, by omega, by omega, ?_⟩))
                         rcases (show t = 1 ∨ t = 2 by omega) with e | e
                         · have := kn115.1 rfl rfl rfl e; omega
                         · have := kn115.2 rfl rfl rfl e; omega)
                  · refine Z_aload_n (n := 104) dX3_combine_103 rfl rfl ?_
                    refine Z_getA (n := 107) dX3_combine_104 rfl ffX3_29 (by first | rfl | exact nS0 (nA_at (by omega) (by omega))) (by first | rfl | exact nS0 (nA_at (by omega) (by omega))) ?_
                    refine Z_iload (n := 109) dX3_combine_107 rfl rfl ?_
                    refine Z_iald (n := 110) dX3_combine_109 rfl (by first | rfl | exact nS0 (nA_at (by omega) (by omega))) rfl (by first | decide | assumption) (by omega) (by omega) (fun r109 s109 => ?_)
                    try simp only [uz_oo (show (12 : Nat) ≠ 0 by decide)] at r109 s109 ⊢
                    refine Z_goto (t := 114) dX3_combine_110 (by decide) ?_
                    refine Z_iconst (n := 115) dX3_combine_114 rfl (by decide) ?_
                    refine Z_callVi (n := 118) [_, _, _, _] _ dX3_combine_115 rfl cwX3_142 rfl rfl (by first | rfl | exact nS0 (nA_at (by omega) (by omega))) (Nat.le_of_ble_eq_true rfl) (by refine ⟨?_, ?_, ?_, ?_⟩ <;> exact Nat.le_of_ble_eq_true rfl) (fun a h => by unfold kPub at h; unfold kStep; omega) (zX3_kindStep  (by omega) (by omega) (by omega) (by omega) (by omega) (by omega) (by omega) (by omega) (by exact (show pI (uz M 0 8 0) from pI_fr hc.1 (uz_o (by decide)) (uz_o (by decide)) (uz_o (by decide)) (uz_o (by decide))))) ?_
                    intro x115 M115 J115 z115 f115 q115
                    obtain ⟨e115_1, l115, u115, pi115, kn115⟩ := q115
                    replace e115_1 := e115_1.symm; subst e115_1
                    refine Z_callVi (n := 121) [_, _] _ dX3_combine_118 rfl cwX3_133 rfl rfl (by first | rfl | exact nS0 (nA_at (by omega) (by omega))) (Nat.le_of_ble_eq_true rfl) (by refine ⟨?_, ?_, ?_, ?_⟩ <;> exact Nat.le_of_ble_eq_true rfl) (fun a h => by unfold kPub at h; unfold kGive; omega) (zX3_give  (by first | assumption | omega | decide) (by first | assumption | omega | decide) (by first | assumption | omega | decide) (by first | assumption | omega | decide)) ?_
                    intro x118 M118 J118 z118 f118 q118
                    obtain ⟨e118_1, h118⟩ := q118
                    replace e118_1 := e118_1.symm; subst e118_1
                    refine Z_fr (fun frR => ?_)
                    refine Z_iret dX3_combine_121 rfl ?_
                    refine ⟨rfl, cI_mk hc frR (pI_fr pi115 (f118 5 (by decide)).1 (f118 6 (by decide)).1 (f118 10 (by decide)).1 (f118 11 (by decide)).1) (ordOK_fr (show ordOK (uz M 0 8 0) from ordOK_fr hc.2.1 (uz_o (by decide))) (((f118 4 (by decide)).1).trans (f115 4 (by decide)).1)), fun q => ?_⟩
                    first
                      | (have := q f (by omega) (by omega); omega)
                      | (have := q g (by omega) (by omega); omega)
                      | (refine Or.inr (Or.inr (Or.inr ⟨by omega, by omega, by omega, ?_⟩))
                         rcases (show t = 1 ∨ t = 2 by omega) with e | e
                         · have := kn115.1 rfl rfl rfl e; omega
                         · have := kn115.2 rfl rfl rfl e; omega)
                · refine Z_aload_n (n := 89) dX3_combine_88 rfl rfl ?_
                  refine Z_getA (n := 92) dX3_combine_89 rfl ffX3_29 (by first | rfl | exact nS0 (nA_at (by omega) (by omega))) (by first | rfl | exact nS0 (nA_at (by omega) (by omega))) ?_
                  refine Z_iload_n (n := 93) dX3_combine_92 rfl rfl ?_
                  refine Z_iald (n := 94) dX3_combine_93 rfl (by first | rfl | exact nS0 (nA_at (by omega) (by omega))) rfl (by first | decide | assumption) (by omega) (by omega) (fun r93 s93 => ?_)
                  try simp only [uz_oo (show (12 : Nat) ≠ 0 by decide)] at r93 s93 ⊢
                  refine Z_goto (t := 98) dX3_combine_94 (by decide) ?_
                  refine Z_iload (n := 100) dX3_combine_98 rfl rfl ?_
                  refine Z_if_eq (n := 103) (t := 113) dX3_combine_100 rfl (by decide) (fun c100 => ?_) (fun c100 => ?_)
                  · refine Z_iconst (n := 114) dX3_combine_113 rfl (by decide) ?_
                    refine Z_iconst (n := 115) dX3_combine_114 rfl (by decide) ?_
                    refine Z_callVi (n := 118) [_, _, _, _] _ dX3_combine_115 rfl cwX3_142 rfl rfl (by first | rfl | exact nS0 (nA_at (by omega) (by omega))) (Nat.le_of_ble_eq_true rfl) (by refine ⟨?_, ?_, ?_, ?_⟩ <;> exact Nat.le_of_ble_eq_true rfl) (fun a h => by unfold kPub at h; unfold kStep; omega) (zX3_kindStep  (by omega) (by omega) (by omega) (by omega) (by omega) (by omega) (by omega) (by omega) (by exact (show pI (uz M 0 8 0) from pI_fr hc.1 (uz_o (by decide)) (uz_o (by decide)) (uz_o (by decide)) (uz_o (by decide))))) ?_
                    intro x115 M115 J115 z115 f115 q115
                    obtain ⟨e115_1, l115, u115, pi115, kn115⟩ := q115
                    replace e115_1 := e115_1.symm; subst e115_1
                    refine Z_callVi (n := 121) [_, _] _ dX3_combine_118 rfl cwX3_133 rfl rfl (by first | rfl | exact nS0 (nA_at (by omega) (by omega))) (Nat.le_of_ble_eq_true rfl) (by refine ⟨?_, ?_, ?_, ?_⟩ <;> exact Nat.le_of_ble_eq_true rfl) (fun a h => by unfold kPub at h; unfold kGive; omega) (zX3_give  (by first | assumption | omega | decide) (by first | assumption | omega | decide) (by first | assumption | omega | decide) (by first | assumption | omega | decide)) ?_
                    intro x118 M118 J118 z118 f118 q118
                    obtain ⟨e118_1, h118⟩ := q118
                    replace e118_1 := e118_1.symm; subst e118_1
                    refine Z_fr (fun frR => ?_)
                    refine Z_iret dX3_combine_121 rfl ?_
                    refine ⟨rfl, cI_mk hc frR (pI_fr pi115 (f118 5 (by decide)).1 (f118 6 (by decide)).1 (f118 10 (by decide)).1 (f118 11 (by decide)).1) (ordOK_fr (show ordOK (uz M 0 8 0) from ordOK_fr hc.2.1 (uz_o (by decide))) (((f118 4 (by decide)).1).trans (f115 4 (by decide)).1)), fun q => ?_⟩
                    first
                      | (have := q f (by omega) (by omega); omega)
                      | (have := q g (by omega) (by omega); omega)
                      | (refine Or.inr (Or.inr (Or.inr ⟨by omega, by omega, by omega, ?_⟩))
                         rcases (show t = 1 ∨ t = 2 by omega) with e | e
                         · have := kn115.1 rfl rfl rfl e; omega
                         · have := kn115.2 rfl rfl rfl e; omega)
                  · refine Z_aload_n (n := 104) dX3_combine_103 rfl rfl ?_
                    refine Z_getA (n := 107) dX3_combine_104 rfl ffX3_29 (by first | rfl | exact nS0 (nA_at (by omega) (by omega))) (by first | rfl | exact nS0 (nA_at (by omega) (by omega))) ?_
                    refine Z_iload (n := 109) dX3_combine_107 rfl rfl ?_
                    refine Z_iald (n := 110) dX3_combine_109 rfl (by first | rfl | exact nS0 (nA_at (by omega) (by omega))) rfl (by first | decide | assumption) (by omega) (by omega) (fun r109 s109 => ?_)
                    try simp only [uz_oo (show (12 : Nat) ≠ 0 by decide)] at r109 s109 ⊢
                    refine Z_goto (t := 114) dX3_combine_110 (by decide) ?_
                    refine Z_iconst (n := 115) dX3_combine_114 rfl (by decide) ?_
                    refine Z_callVi (n := 118) [_, _, _, _] _ dX3_combine_115 rfl cwX3_142 rfl rfl (by first | rfl | exact nS0 (nA_at (by omega) (by omega))) (Nat.le_of_ble_eq_true rfl) (by refine ⟨?_, ?_, ?_, ?_⟩ <;> exact Nat.le_of_ble_eq_true rfl) (fun a h => by unfold kPub at h; unfold kStep; omega) (zX3_kindStep  (by omega) (by omega) (by omega) (by omega) (by omega) (by omega) (by omega) (by omega) (by exact (show pI (uz M 0 8 0) from pI_fr hc.1 (uz_o (by decide)) (uz_o (by decide)) (uz_o (by decide)) (uz_o (by decide))))) ?_
                    intro x115 M115 J115 z115 f115 q115
                    obtain ⟨e115_1, l115, u115, pi115, kn115⟩ := q115
                    replace e115_1 := e115_1.symm; subst e115_1
                    refine Z_callVi (n := 121) [_, _] _ dX3_combine_118 rfl cwX3_133 rfl rfl (by first | rfl | exact nS0 (nA_at (by omega) (by omega))) (Nat.le_of_ble_eq_true rfl) (by refine ⟨?_, ?_, ?_, ?_⟩ <;> exact Nat.le_of_ble_eq_true rfl) (fun a h => by unfold kPub at h; unfold kGive; omega) (zX3_give  (by first | assumption | omega | decide) (by first | assumption | omega | decide) (by first | assumption | omega | decide) (by first | assumption | omega | decide)) ?_
                    intro x118 M118 J118 z118 f118 q118
                    obtain ⟨e118_1, h118⟩ := q118
                    replace e118_1 := e118_1.symm; subst e118_1
                    refine Z_fr (fun frR => ?_)
                    refine Z_iret dX3_combine_121 rfl ?_
                    refine ⟨rfl, cI_mk hc frR (pI_fr pi115 (f118 5 (by decide)).1 (f118 6 (by decide)).1 (f118 10 (by decide)).1 (f118 11 (by decide)).1) (ordOK_fr (show ordOK (uz M 0 8 0) from ordOK_fr hc.2.1 (uz_o (by decide))) (((f118 4 (by decide)).1).trans (f115 4 (by decide)).1)), fun q => ?_⟩
                    first
                      | (have := q f (by omega) (by omega); omega)
                      | (have := q g (by omega) (by omega); omega)
                      | (refine Or.inr (Or.inr (Or.inr ⟨by omega, by omega, by omega, ?_⟩))
                         rcases (show t = 1 ∨ t = 2 by omega) with e | e
                         · have := kn115.1 rfl rfl rfl e; omega
                         · have := kn115.2 rfl rfl rfl e; omega)
              · refine Z_aload_n (n := 65) dX3_combine_64 rfl rfl ?_
                refine Z_iload (n := 67) dX3_combine_65 rfl rfl ?_
                refine Z_callVi (n := 70) [_] _ dX3_combine_67 rfl cwX3_139 rfl rfl (by first | rfl | exact nS0 (nA_at (by omega) (by omega))) (Nat.le_of_ble_eq_true rfl) (by refine ⟨?_, ?_, ?_, ?_⟩ <;> exact Nat.le_of_ble_eq_true rfl) (fun _ _ => trivial) (zX3_hasFunction  ) ?_
                intro x67 M67 J67 z67 f67 q67
                obtain ⟨e67_1, e67_2, h67⟩ := q67
                replace e67_1 := e67_1.symm; subst e67_1
                replace e67_2 := e67_2.symm; subst e67_2
                refine Z_if_ne (n := 73) (t := 75) dX3_combine_70 rfl (by decide) (fun c70 => ?_) (fun c70 => ?_)
                · refine Z_aload_n (n := 76) dX3_combine_75 rfl rfl ?_
                  refine Z_callVv (n := 79) [] _ dX3_combine_76 rfl cwX3_126 rfl rfl (by first | rfl | exact nS0 (nA_at (by omega) (by omega))) (Nat.le_of_ble_eq_true rfl) (by refine ⟨?_, ?_, ?_, ?_⟩ <;> exact Nat.le_of_ble_eq_true rfl) (fun _ h => h) (zX3_beginSteps  (by exact fun h => by unfold kPub at h; omega)) ?_
                  intro M76 J76 f76 q76
                  obtain ⟨e76_1, e76_2⟩ := q76
                  replace e76_1 := e76_1.symm; subst e76_1
                  replace e76_2 := e76_2.symm; subst e76_2
                  refine Z_aload_n (n := 80) dX3_combine_79 rfl rfl ?_
                  refine Z_iload_n (n := 81) dX3_combine_80 rfl rfl ?_
                  refine Z_aload_n (n := 82) dX3_combine_81 rfl rfl ?_
                  refine Z_iload_n (n := 83) dX3_combine_82 rfl rfl ?_
                  refine Z_iload (n := 85) dX3_combine_83 rfl rfl ?_
                  refine Z_if_eq (n := 88) (t := 97) dX3_combine_85 rfl (by decide) (fun c85 => ?_) (fun c85 => ?_)
                  · refine Z_iconst (n := 98) dX3_combine_97 rfl (by decide) ?_
                    refine Z_iload (n := 100) dX3_combine_98 rfl rfl ?_
                    refine Z_if_eq (n := 103) (t := 113) dX3_combine_100 rfl (by decide) (fun c100 => ?_) (fun c100 => ?_)
                    · refine Z_iconst (n := 114) dX3_combine_113 rfl (by decide) ?_
                      refine Z_iconst (n := 115) dX3_combine_114 rfl (by decide) ?_
                      refine Z_callVi (n := 118) [_, _, _, _] _ dX3_combine_115 rfl cwX3_142 rfl rfl (by first | rfl | exact nS0 (nA_at (by omega) (by omega))) (Nat.le_of_ble_eq_true rfl) (by refine ⟨?_, ?_, ?_, ?_⟩ <;> exact Nat.le_of_ble_eq_true rfl) (fun a h => by unfold kPub at h; unfold kStep; omega) (zX3_kindStep  (by omega) (by omega) (by omega) (by omega) (by omega) (by omega) (by omega) (by omega) (by exact (show pI (uz M 0 8 0) from pI_fr hc.1 (uz_o (by decide)) (uz_o (by decide)) (uz_o (by decide)) (uz_o (by decide))))) ?_
                      intro x115 M115 J115 z115 f115 q115
                      obtain ⟨e115_1, l115, u115, pi115, kn115⟩ := q115
                      replace e115_1 := e115_1.symm; subst e115_1
                      refine Z_callVi (n := 121) [_, _] _ dX3_combine_118 rfl cwX3_133 rfl rfl (by first | rfl | exact nS0 (nA_at (by omega) (by omega))) (Nat.le_of_ble_eq_true rfl) (by refine ⟨?_, ?_, ?_, ?_⟩ <;> exact Nat.le_of_ble_eq_true rfl) (fun a h => by unfold kPub at h; unfold kGive; omega) (zX3_give  (by first | assumption | omega | decide) (by first | assumption | omega | decide) (by first | assumption | omega | decide) (by first | assumption | omega | decide)) ?_
                      intro x118 M118 J118 z118 f118 q118
                      obtain ⟨e118_1, h118⟩ := q118
                      replace e118_1 := e118_1.symm; subst e118_1
                      refine Z_fr (fun frR => ?_)
                      refine Z_iret dX3_combine_121 rfl ?_
                      refine ⟨rfl, cI_mk hc frR (pI_fr pi115 (f118 5 (by decide)).1 (f118 6 (by decide)).1 (f118 10 (by decide)).1 (f118 11 (by decide)).1) (ordOK_fr (show ordOK (uz M 0 8 0) from ordOK_fr hc.2.1 (uz_o (by decide))) (((f118 4 (by decide)).1).trans (f115 4 (by decide)).1)), fun q => ?_⟩
                      first
                        | (have := q f (by omega) (by omega); omega)
                        | (have := q g (by omega) (by omega); omega)
                        | (refine Or.inr (Or.inr (Or.inr ⟨by omega, by omega, by omega, ?_⟩))
                           rcases (show t = 1 ∨ t = 2 by omega) with e | e
                           · have := kn115.1 rfl rfl rfl e; omega
                           · have := kn115.2 rfl rfl rfl e; omega)
                    · refine Z_aload_n (n := 104) dX3_combine_103 rfl rfl ?_
                      refine Z_getA (n := 107) dX3_combine_104 rfl ffX3_29 (by first | rfl | exact nS0 (nA_at (by omega) (by omega))) (by first | rfl | exact nS0 (nA_at (by omega) (by omega))) ?_
                      refine Z_iload (n := 109) dX3_combine_107 rfl rfl ?_
                      refine Z_iald (n := 110) dX3_combine_109 rfl (by first | rfl | exact nS0 (nA_at (by omega) (by omega))) rfl (by first | decide | assumption) (by omega) (by omega) (fun r109 s109 => ?_)
                      try simp only [uz_oo (show (12 : Nat) ≠ 0 by decide)] at r109 s109 ⊢
                      refine Z_goto (t := 114) dX3_combine_110 (by decide) ?_
                      refine Z_iconst (n := 115) dX3_combine_114 rfl (by decide) ?_
                      refine Z_callVi (n := 118) [_, _, _, _] _ dX3_combine_115 rfl cwX3_142 rfl rfl (by first | rfl | exact nS0 (nA_at (by omega) (by omega))) (Nat.le_of_ble_eq_true rfl) (by refine ⟨?_, ?_, ?_, ?_⟩ <;> exact Nat.le_of_ble_eq_true rfl) (fun a h => by unfold kPub at h; unfold kStep; omega) (zX3_kindStep  (by omega) (by omega) (by omega) (by omega) (by omega) (by omega) (by omega) (by omega) (by exact (show pI (uz M 0 8 0) from pI_fr hc.1 (uz_o (by decide)) (uz_o (by decide)) (uz_o (by decide)) (uz_o (by decide))))) ?_
                      intro x115 M115 J115 z115 f115 q115
                      obtain ⟨e115_1, l115, u115, pi115, kn115⟩ := q115
                      replace e115_1 := e115_1.symm; subst e115_1
                      refine Z_callVi (n := 121) [_, _] _ dX3_combine_118 rfl cwX3_133 rfl rfl (by first | rfl | exact nS0 (nA_at (by omega) (by omega))) (Nat.le_of_ble_eq_true rfl) (by refine ⟨?_, ?_, ?_, ?_⟩ <;> exact Nat.le_of_ble_eq_true rfl) (fun a h => by unfold kPub at h; unfold kGive; omega) (zX3_give  (by first | assumption | omega | decide) (by first | assumption | omega | decide) (by first | assumption | omega | decide) (by first | assumption | omega | decide)) ?_
                      intro x118 M118 J118 z118 f118 q118
                      obtain ⟨e118_1, h118⟩ := q118
                      replace e118_1 := e118_1.symm; subst e118_1
                      refine Z_fr (fun frR => ?_)
                      refine Z_iret dX3_combine_121 rfl ?_
                      refine ⟨rfl, cI_mk hc frR (pI_fr pi115 (f118 5 (by decide)).1 (f118 6 (by decide)).1 (f118 10 (by decide)).1 (f118 11 (by decide)).1) (ordOK_fr (show ordOK (uz M 0 8 0) from ordOK_fr hc.2.1 (uz_o (by decide))) (((f118 4 (by decide)).1).trans (f115 4 (by decide)).1)), fun q => ?_⟩
                      first
                        | (have := q f (by omega) (by omega); omega)
                        | (have := q g (by omega) (by omega); omega)
                        | (refine Or.inr (Or.inr (Or.inr ⟨by omega, by omega, by omega, ?_⟩))
                           rcases (show t = 1 ∨ t = 2 by omega) with e | e
                           · have := kn115.1 rfl rfl rfl e; omega
                           · have := kn115.2 rfl rfl rfl e; omega)
                  · refine Z_aload_n (n := 89) dX3_combine_88 rfl rfl ?_
                    refine Z_getA (n := 92) dX3_combine_89 rfl ffX3_29 (by first | rfl | exact nS0 (nA_at (by omega) (by omega))) (by first | rfl | exact nS0 (nA_at (by omega) (by omega))) ?_
                    refine Z_iload_n (n := 93) dX3_combine_92 rfl rfl ?_
                    refine Z_iald (n := 94) dX3_combine_93 rfl (by first | rfl | exact nS0 (nA_at (by omega) (by omega))) rfl (by first | decide | assumption) (by omega) (by omega) (fun r93 s93 => ?_)
                    try simp only [uz_oo (show (12 : Nat) ≠ 0 by decide)] at r93 s93 ⊢
                    refine Z_goto (t := 98) dX3_combine_94 (by decide) ?_
                    refine Z_iload (n := 100) dX3_combine_98 rfl rfl ?_
                    refine Z_if_eq (n := 103) (t := 113) dX3_combine_100 rfl (by decide) (fun c100 => ?_) (fun c100 => ?_)
                    · refine Z_iconst (n := 114) dX3_combine_113 rfl (by decide) ?_
                      refine Z_iconst (n := 115) dX3_combine_114 rfl (by decide) ?_
                      refine Z_callVi (n := 118) [_, _, _, _] _ dX3_combine_115 rfl cwX3_142 rfl rfl (by first | rfl | exact nS0 (nA_at (by omega) (by omega))) (Nat.le_of_ble_eq_true rfl) (by refine ⟨?_, ?_, ?_, ?_⟩ <;> exact Nat.le_of_ble_eq_true rfl) (fun a h => by unfold kPub at h; unfold kStep; omega) (zX3_kindStep  (by omega) (by omega) (by omega) (by omega) (by omega) (by omega) (by omega) (by omega) (by exact (show pI (uz M 0 8 0) from pI_fr hc.1 (uz_o (by decide)) (uz_o (by decide)) (uz_o (by decide)) (uz_o (by decide))))) ?_
                      intro x115 M115 J115 z115 f115 q115
                      obtain ⟨e115_1, l115, u115, pi115, kn115⟩ := q115
                      replace e115_1 := e115_1.symm; subst e115_1
                      refine Z_callVi (n := 121) [_, _] _ dX3_combine_118 rfl cwX3_133 rfl rfl (by first | rfl | exact nS0 (nA_at (by omega) (by omega))) (Nat.le_of_ble_eq_true rfl) (by refine ⟨?_, ?_, ?_, ?_⟩ <;> exact Nat.le_of_ble_eq_true rfl) (fun a h => by unfold kPub at h; unfold kGive; omega) (zX3_give  (by first | assumption | omega | decide) (by first | assumption | omega | decide) (by first | assumption | omega | decide) (by first | assumption | omega | decide)) ?_
                      intro x118 M118 J118 z118 f118 q118
                      obtain ⟨e118_1, h118⟩ := q118
                      replace e118_1 := e118_1.symm; subst e118_1
                      refine Z_fr (fun frR => ?_)
                      refine Z_iret dX3_combine_121 rfl ?_
                      refine ⟨rfl, cI_mk hc frR (pI_fr pi115 (f118 5 (by decide)).1 (f118 6 (by decide)).1 (f118 10 (by decide)).1 (f118 11 (by decide)).1) (ordOK_fr (show ordOK (uz M 0 8 0) from ordOK_fr hc.2.1 (uz_o (by decide))) (((f118 4 (by decide)).1).trans (f115 4 (by decide)).1)), fun q => ?_⟩
                      first
                        | (have := q f (by omega) (by omega); omega)
                        | (have := q g (by omega) (by omega); omega)
                        | (refine Or.inr (Or.inr (Or.inr ⟨by omega, by omega, by omega, ?_⟩))
                           rcases (show t = 1 ∨ t = 2 by omega) with e | e
                           · have := kn115.1 rfl rfl rfl e; omega
                           · have := kn115.2 rfl rfl rfl e; omega)
                    · refine Z_aload_n (n := 104) dX3_combine_103 rfl rfl ?_
                      refine Z_getA (n := 107) dX3_combine_104 rfl ffX3_29 (by first | rfl | exact nS0 (nA_at (by omega) (by omega))) (by first | rfl | exact nS0 (nA_at (by omega) (by omega))) ?_
                      refine Z_iload (n := 109) dX3_combine_107 rfl rfl ?_
                      refine Z_iald (n := 110) dX3_combine_109 rfl (by first | rfl | exact nS0 (nA_at (by omega) (by omega))) rfl (by first | decide | assumption) (by omega) (by omega) (fun r109 s109 => ?_)
                      try simp only [uz_oo (show (12 : Nat) ≠ 0 by decide)] at r109 s109 ⊢
                      refine Z_goto (t := 114) dX3_combine_110 (by decide) ?_
                      refine Z_iconst (n := 115) dX3_combine_114 rfl (by decide) ?_
                      refine Z_callVi (n := 118) [_, _, _, _] _ dX3_combine_115 rfl cwX3_142 rfl rfl (by first | rfl | exact nS0 (nA_at (by omega) (by omega))) (Nat.le_of_ble_eq_true rfl) (by refine ⟨?_, ?_, ?_, ?_⟩ <;> exact Nat.le_of_ble_eq_true rfl) (fun a h => by unfold kPub at h; unfold kStep; omega) (zX3_kindStep  (by omega) (by omega) (by omega) (by omega) (by omega) (by omega) (by omega) (by omega) (by exact (show pI (uz M 0 8 0) from pI_fr hc.1 (uz_o (by decide)) (uz_o (by decide)) (uz_o (by decide)) (uz_o (by decide))))) ?_
                      intro x115 M115 J115 z115 f115 q115
                      obtain ⟨e115_1, l115, u115, pi115, kn115⟩ := q115
                      replace e115_1 := e115_1.symm; subst e115_1
                      refine Z_callVi (n := 121) [_, _] _ dX3_combine_118 rfl cwX3_133 rfl rfl (by first | rfl | exact nS0 (nA_at (by omega) (by omega))) (Nat.le_of_ble_eq_true rfl) (by refine ⟨?_, ?_, ?_, ?_⟩ <;> exact Nat.le_of_ble_eq_true rfl) (fun a h => by unfold kPub at h; unfold kGive; omega) (zX3_give  (by first | assumption | omega | decide) (by first | assumption | omega | decide) (by first | assumption | omega | decide) (by first | assumption | omega | decide)) ?_
                      intro x118 M118 J118 z118 f118 q118
                      obtain ⟨e118_1, h118⟩ := q118
                      replace e118_1 := e118_1.symm; subst e118_1
                      refine Z_fr (fun frR => ?_)
                      refine Z_iret dX3_combine_121 rfl ?_
                      refine ⟨rfl, cI_mk hc frR (pI_fr pi115 (f118 5 (by decide)).1 (f118 6 (by decide)).1 (f118 10 (by decide)).1 (f118 11 (by decide)).1) (ordOK_fr (show ordOK (uz M 0 8 0) from ordOK_fr hc.2.1 (uz_o (by decide))) (((f118 4 (by decide)).1).trans (f115 4 (by decide)).1)), fun q => ?_⟩
                      first
                        | (have := q f (by omega) (by omega); omega)
                        | (have := q g (by omega) (by omega); omega)
                        | (refine Or.inr (Or.inr (Or.inr ⟨by omega, by omega, by omega, ?_⟩))
                           rcases (show t = 1 ∨ t = 2 by omega) with e | e
                           · have := kn115.1 rfl rfl rfl e; omega
                           · have := kn115.2 rfl rfl rfl e; omega)
                · refine Z_iconst (n := 74) dX3_combine_73 rfl (by decide) ?_
                  refine Z_iret dX3_combine_74 rfl ?_
                  exact ⟨rfl, hc, fun _ => Or.inr (Or.inr (Or.inl ⟨by omega, by omega, by omega, by omega, rfl⟩))⟩
            · refine Z_aload_n (n := 52) dX3_combine_51 rfl rfl ?_
              refine Z_iload_n (n := 53) dX3_combine_52 rfl rfl ?_
              refine Z_callVi (n := 56) [_] _ dX3_combine_53 rfl cwX3_139 rfl rfl (by first | rfl | exact nS0 (nA_at (by omega) (by omega))) (Nat.le_of_ble_eq_true rfl) (by refine ⟨?_, ?_, ?_, ?_⟩ <;> exact Nat.le_of_ble_eq_true rfl) (fun _ _ => trivial) (zX3_hasFunction  ) ?_
              intro x53 M53 J53 z53 f53 q53
              obtain ⟨e53_1, e53_2, h53⟩ := q53
              replace e53_1 := e53_1.symm; subst e53_1
              replace e53_2 := e53_2.symm; subst e53_2
              refine Z_if_eq (n := 59) (t := 73) dX3_combine_56 rfl (by decide) (fun c56 => ?_) (fun c56 => ?_)
              · refine Z_iconst (n := 74) dX3_combine_73 rfl (by decide) ?_
                refine Z_iret dX3_combine_74 rfl ?_
                exact ⟨rfl, hc, fun _ => Or.inr (Or.inr (Or.inl ⟨by omega, by omega, by omega, by omega, rfl⟩))⟩
              · refine Z_iload (n := 61) dX3_combine_59 rfl rfl ?_
                refine Z_if_eq (n := 64) (t := 75) dX3_combine_61 rfl (by decide) (fun c61 => ?_) (fun c61 => ?_)
                · refine Z_aload_n (n := 76) dX3_combine_75 rfl rfl ?_
                  refine Z_callVv (n := 79) [] _ dX3_combine_76 rfl cwX3_126 rfl rfl (by first | rfl | exact nS0 (nA_at (by omega) (by omega))) (Nat.le_of_ble_eq_true rfl) (by refine ⟨?_, ?_, ?_, ?_⟩ <;> exact Nat.le_of_ble_eq_true rfl) (fun _ h => h) (zX3_beginSteps  (by exact fun h => by unfold kPub at h; omega)) ?_
                  intro M76 J76 f76 q76
                  obtain ⟨e76_1, e76_2⟩ := q76
                  replace e76_1 := e76_1.symm; subst e76_1
                  replace e76_2 := e76_2.symm; subst e76_2
                  refine Z_aload_n (n := 80) dX3_combine_79 rfl rfl ?_
                  refine Z_iload_n (n := 81) dX3_combine_80 rfl rfl ?_
                  refine Z_aload_n (n := 82) dX3_combine_81 rfl rfl ?_
                  refine Z_iload_n (n := 83) dX3_combine_82 rfl rfl ?_
                  refine Z_iload (n := 85) dX3_combine_83 rfl rfl ?_
                  refine Z_if_eq (n := 88) (t := 97) dX3_combine_85 rfl (by decide) (fun c85 => ?_) (fun c85 => ?_)
                  · refine Z_iconst (n := 98) dX3_combine_97 rfl (by decide) ?_
                    refine Z_iload (n := 100) dX3_combine_98 rfl rfl ?_
                    refine Z_if_eq (n := 103) (t := 113) dX3_combine_100 rfl (by decide) (fun c100 => ?_) (fun c100 => ?_)
                    · refine Z_iconst (n := 114) dX3_combine_113 rfl (by decide) ?_
                      refine Z_iconst (n := 115) dX3_combine_114 rfl (by decide) ?_
                      refine Z_callVi (n := 118) [_, _, _, _] _ dX3_combine_115 rfl cwX3_142 rfl rfl (by first | rfl | exact nS0 (nA_at (by omega) (by omega))) (Nat.le_of_ble_eq_true rfl) (by refine ⟨?_, ?_, ?_, ?_⟩ <;> exact Nat.le_of_ble_eq_true rfl) (fun a h => by unfold kPub at h; unfold kStep; omega) (zX3_kindStep  (by omega) (by omega) (by omega) (by omega) (by omega) (by omega) (by omega) (by omega) (by exact (show pI (uz M 0 8 0) from pI_fr hc.1 (uz_o (by decide)) (uz_o (by decide)) (uz_o (by decide)) (uz_o (by decide))))) ?_
                      intro x115 M115 J115 z115 f115 q115
                      obtain ⟨e115_1, l115, u115, pi115, kn115⟩ := q115
                      replace e115_1 := e115_1.symm; subst e115_1
                      refine Z_callVi (n := 121) [_, _] _ dX3_combine_118 rfl cwX3_133 rfl rfl (by first | rfl | exact nS0 (nA_at (by omega) (by omega))) (Nat.le_of_ble_eq_true rfl) (by refine ⟨?_, ?_, ?_, ?_⟩ <;> exact Nat.le_of_ble_eq_true rfl) (fun a h => by unfold kPub at h; unfold kGive; omega) (zX3_give  (by first | assumption | omega | decide) (by first | assumption | omega | decide) (by first | assumption | omega | decide) (by first | assumption | omega | decide)) ?_
                      intro x118 M118 J118 z118 f118 q118
                      obtain ⟨e118_1, h118⟩ := q118
                      replace e118_1 := e118_1.symm; subst e118_1
                      refine Z_fr (fun frR => ?_)
                      refine Z_iret dX3_combine_121 rfl ?_
                      refine ⟨rfl, cI_mk hc frR (pI_fr pi115 (f118 5 (by decide)).1 (f118 6 (by decide)).1 (f118 10 (by decide)).1 (f118 11 (by decide)).1) (ordOK_fr (show ordOK (uz M 0 8 0) from ordOK_fr hc.2.1 (uz_o (by decide))) (((f118 4 (by decide)).1).trans (f115 4 (by decide)).1)), fun q => ?_⟩
                      first
                        | (have := q f (by omega) (by omega); omega)
                        | (have := q g (by omega) (by omega); omega)
                        | (refine Or.inr (Or.inr (Or.inr ⟨by omega, by omega, by omega, ?_⟩))
                           rcases (show t = 1 ∨ t = 2 by omega) with e | e
                           · have := kn115.1 rfl rfl rfl e; omega
                           · have := kn115.2 rfl rfl rfl e; omega)
                    · refine Z_aload_n (n := 104) dX3_combine_103 rfl rfl ?_
                      refine Z_getA (n := 107) dX3_combine_104 rfl ffX3_29 (by first | rfl | exact nS0 (nA_at (by omega) (by omega))) (by first | rfl | exact nS0 (nA_at (by omega) (by omega))) ?_
                      refine Z_iload (n := 109) dX3_combine_107 rfl rfl ?_
                      refine Z_iald (n := 110) dX3_combine_109 rfl (by first | rfl | exact nS0 (nA_at (by omega) (by omega))) rfl (by first | decide | assumption) (by omega) (by omega) (fun r109 s109 => ?_)
                      try simp only [uz_oo (show (12 : Nat) ≠ 0 by decide)] at r109 s109 ⊢
                      refine Z_goto (t := 114) dX3_combine_110 (by decide) ?_
                      refine Z_iconst (n := 115) dX3_combine_114 rfl (by decide) ?_
                      refine Z_callVi (n := 118) [_, _, _, _] _ dX3_combine_115 rfl cwX3_142 rfl rfl (by first | rfl | exact nS0 (nA_at (by omega) (by omega))) (Nat.le_of_ble_eq_true rfl) (by refine ⟨?_, ?_, ?_, ?_⟩ <;> exact Nat.le_of_ble_eq_true rfl) (fun a h => by unfold kPub at h; unfold kStep; omega) (zX3_kindStep  (by omega) (by omega) (by omega) (by omega) (by omega) (by omega) (by omega) (by omega) (by exact (show pI (uz M 0 8 0) from pI_fr hc.1 (uz_o (by decide)) (uz_o (by decide)) (uz_o (by decide)) (uz_o (by decide))))) ?_
                      intro x115 M115 J115 z115 f115 q115
                      obtain ⟨e115_1, l115, u115, pi115, kn115⟩ := q115
                      replace e115_1 := e115_1.symm; subst e115_1
                      refine Z_callVi (n := 121) [_, _] _ dX3_combine_118 rfl cwX3_133 rfl rfl (by first | rfl | exact nS0 (nA_at (by omega) (by omega))) (Nat.le_of_ble_eq_true rfl) (by refine ⟨?_, ?_, ?_, ?_⟩ <;> exact Nat.le_of_ble_eq_true rfl) (fun a h => by unfold kPub at h; unfold kGive; omega) (zX3_give  (by first | assumption | omega | decide) (by first | assumption | omega | decide) (by first | assumption | omega | decide) (by first | assumption | omega | decide)) ?_
                      intro x118 M118 J118 z118 f118 q118
                      obtain ⟨e118_1, h118⟩ := q118
                      replace e118_1 := e118_1.symm; subst e118_1
                      refine Z_fr (fun frR => ?_)
                      refine Z_iret dX3_combine_121 rfl ?_
                      refine ⟨rfl, cI_mk hc frR (pI_fr pi115 (f118 5 (by decide)).1 (f118 6 (by decide)).1 (f118 10 (by decide)).1 (f118 11 (by decide)).1) (ordOK_fr (show ordOK (uz M 0 8 0) from ordOK_fr hc.2.1 (uz_o (by decide))) (((f118 4 (by decide)).1).trans (f115 4 (by decide)).1)), fun q => ?_⟩
                      first
                        | (have := q f (by omega) (by omega); omega)
                        | (have := q g (by omega) (by omega); omega)
                        | (refine Or.inr (Or.inr (Or.inr ⟨by omega, by omega, by omega, ?_⟩))
                           rcases (show t = 1 ∨ t = 2 by omega) with e | e
                           · have := kn115.1 rfl rfl rfl e; omega
                           · have := kn115.2 rfl rfl rfl e; omega)
                  · refine Z_aload_n (n := 89) dX3_combine_88 rfl rfl ?_
                    refine Z_getA (n := 92) dX3_combine_89 rfl ffX3_29 (by first | rfl | exact nS0 (nA_at (by omega) (by omega))) (by first | rfl | exact nS0 (nA_at (by omega) (by omega))) ?_
                    refine Z_iload_n (n := 93) dX3_combine_92 rfl rfl ?_
                    refine Z_iald (n := 94) dX3_combine_93 rfl (by first | rfl | exact nS0 (nA_at (by omega) (by omega))) rfl (by first | decide | assumption) (by omega) (by omega) (fun r93 s93 => ?_)
                    try simp only [uz_oo (show (12 : Nat) ≠ 0 by decide)] at r93 s93 ⊢
                    refine Z_goto (t := 98) dX3_combine_94 (by decide) ?_
                    refine Z_iload (n := 100) dX3_combine_98 rfl rfl ?_
                    refine Z_if_eq (n := 103) (t := 113) dX3_combine_100 rfl (by decide) (fun c100 => ?_) (fun c100 => ?_)
                    · refine Z_iconst (n := 114) dX3_combine_113 rfl (by decide) ?_
                      refine Z_iconst (n := 115) dX3_combine_114 rfl (by decide) ?_
                      refine Z_callVi (n := 118) [_, _, _, _] _ dX3_combine_115 rfl cwX3_142 rfl rfl (by first | rfl | exact nS0 (nA_at (by omega) (by omega))) (Nat.le_of_ble_eq_true rfl) (by refine ⟨?_, ?_, ?_, ?_⟩ <;> exact Nat.le_of_ble_eq_true rfl) (fun a h => by unfold kPub at h; unfold kStep; omega) (zX3_kindStep  (by omega) (by omega) (by omega) (by omega) (by omega) (by omega) (by omega) (by omega) (by exact (show pI (uz M 0 8 0) from pI_fr hc.1 (uz_o (by decide)) (uz_o (by decide)) (uz_o (by decide)) (uz_o (by decide))))) ?_
                      intro x115 M115 J115 z115 f115 q115
                      obtain ⟨e115_1, l115, u115, pi115, kn115⟩ := q115
                      replace e115_1 := e115_1.symm; subst e115_1
                      refine Z_callVi (n := 121) [_, _] _ dX3_combine_118 rfl cwX3_133 rfl rfl (by first | rfl | exact nS0 (nA_at (by omega) (by omega))) (Nat.le_of_ble_eq_true rfl) (by refine ⟨?_, ?_, ?_, ?_⟩ <;> exact Nat.le_of_ble_eq_true rfl) (fun a h => by unfold kPub at h; unfold kGive; omega) (zX3_give  (by first | assumption | omega | decide) (by first | assumption | omega | decide) (by first | assumption | omega | decide) (by first | assumption | omega | decide)) ?_
                      intro x118 M118 J118 z118 f118 q118
                      obtain ⟨e118_1, h118⟩ := q118
                      replace e118_1 := e118_1.symm; subst e118_1
                      refine Z_fr (fun frR => ?_)
                      refine Z_iret dX3_combine_121 rfl ?_
                      refine ⟨rfl, cI_mk hc frR (pI_fr pi115 (f118 5 (by decide)).1 (f118 6 (by decide)).1 (f118 10 (by decide)).1 (f118 11 (by decide)).1) (ordOK_fr (show ordOK (uz M 0 8 0) from ordOK_fr hc.2.1 (uz_o (by decide))) (((f118 4 (by decide)).1).trans (f115 4 (by decide)).1)), fun q => ?_⟩
                      first
                        | (have := q f (by omega) (by omega); omega)
                        | (have := q g (by omega) (by omega); omega)
                        | (refine Or.inr (Or.inr (Or.inr ⟨by omega, by omega, by omega, ?_⟩))
                           rcases (show t = 1 ∨ t = 2 by omega) with e | e
                           · have := kn115.1 rfl rfl rfl e; omega
                           · have := kn115.2 rfl rfl rfl e; omega)
                    · refine Z_aload_n (n := 104) dX3_combine_103 rfl rfl ?_
                      refine Z_getA (n := 107) dX3_combine_104 rfl ffX3_29 (by first | rfl | exact nS0 (nA_at (by omega) (by omega))) (by first | rfl | exact nS0 (nA_at (by omega) (by omega))) ?_
                      refine Z_iload (n := 109) dX3_combine_107 rfl rfl ?_
                      refine Z_iald (n := 110) dX3_combine_109 rfl (by first | rfl | exact nS0 (nA_at (by omega) (by omega))) rfl (by first | decide | assumption) (by omega) (by omega) (fun r109 s109 => ?_)
                      try simp only [uz_oo (show (12 : Nat) ≠ 0 by decide)] at r109 s109 ⊢
                      refine Z_goto (t := 114) dX3_combine_110 (by decide) ?_
                      refine Z_iconst (n := 115) dX3_combine_114 rfl (by decide) ?_
                      refine Z_callVi (n := 118) [_, _, _, _] _ dX3_combine_115 rfl cwX3_142 rfl rfl (by first | rfl | exact nS0 (nA_at (by omega) (by omega))) (Nat.le_of_ble_eq_true rfl) (by refine ⟨?_, ?_, ?_, ?_⟩ <;> exact Nat.le_of_ble_eq_true rfl) (fun a h => by unfold kPub at h; unfold kStep; omega) (zX3_kindStep  (by omega) (by omega) (by omega) (by omega) (by omega) (by omega) (by omega) (by omega) (by exact (show pI (uz M 0 8 0) from pI_fr hc.1 (uz_o (by decide)) (uz_o (by decide)) (uz_o (by decide)) (uz_o (by decide))))) ?_
                      intro x115 M115 J115 z115 f115 q115
                      obtain ⟨e115_1, l115, u115, pi115, kn115⟩ := q115
                      replace e115_1 := e115_1.symm; subst e115_1
                      refine Z_callVi (n := 121) [_, _] _ dX3_combine_118 rfl cwX3_133 rfl rfl (by first | rfl | exact nS0 (nA_at (by omega) (by omega))) (Nat.le_of_ble_eq_true rfl) (by refine ⟨?_, ?_, ?_, ?_⟩ <;> exact Nat.le_of_ble_eq_true rfl) (fun a h => by unfold kPub at h; unfold kGive; omega) (zX3_give  (by first | assumption | omega | decide) (by first | assumption | omega | decide) (by first | assumption | omega | decide) (by first | assumption | omega | decide)) ?_
                      intro x118 M118 J118 z118 f118 q118
                      obtain ⟨e118_1, h118⟩ := q118
                      replace e118_1 := e118_1.symm; subst e118_1
                      refine Z_fr (fun frR => ?_)
                      refine Z_iret dX3_combine_121 rfl ?_
                      refine ⟨rfl, cI_mk hc frR (pI_fr pi115 (f118 5 (by decide)).1 (f118 6 (by decide)).1 (f118 10 (by decide)).1 (f118 11 (by decide)).1) (ordOK_fr (show ordOK (uz M 0 8 0) from ordOK_fr hc.2.1 (uz_o (by decide))) (((f118 4 (by decide)).1).trans (f115 4 (by decide)).1)), fun q => ?_⟩
                      first
                        | (have := q f (by omega) (by omega); omega)
                        | (have := q g (by omega) (by omega); omega)
                        | (refine Or.inr (Or.inr (Or.inr ⟨by omega, by omega, by omega, ?_⟩))
                           rcases (show t = 1 ∨ t = 2 by omega) with e | e
                           · have := kn115.1 rfl rfl rfl e; omega
                           · have := kn115.2 rfl rfl rfl e; omega)
                · refine Z_aload_n (n := 65) dX3_combine_64 rfl rfl ?_
                  refine Z_iload (n := 67) dX3_combine_65 rfl rfl ?_
                  refine Z_callVi (n := 70) [_] _ dX3_combine_67 rfl cwX3_139 rfl rfl (by first | rfl | exact nS0 (nA_at (by omega) (by omega))) (Nat.le_of_ble_eq_true rfl) (by refine ⟨?_, ?_, ?_, ?_⟩ <;> exact Nat.le_of_ble_eq_true rfl) (fun _ _ => trivial) (zX3_hasFunction  ) ?_
                  intro x67 M67 J67 z67 f67 q67
                  obtain ⟨e67_1, e67_2, h67⟩ := q67
                  replace e67_1 := e67_1.symm; subst e67_1
                  replace e67_2 := e67_2.symm; subst e67_2
                  refine Z_if_ne (n := 73) (t := 75) dX3_combine_70 rfl (by decide) (fun c70 => ?_) (fun c70 => ?_)
                  · refine Z_aload_n (n := 76) dX3_combine_75 rfl rfl ?_
                    refine Z_callVv (n := 79) [] _ dX3_combine_76 rfl cwX3_126 rfl rfl (by first | rfl | exact nS0 (nA_at (by omega) (by omega))) (Nat.le_of_ble_eq_true rfl) (by refine ⟨?_, ?_, ?_, ?_⟩ <;> exact Nat.le_of_ble_eq_true rfl) (fun _ h => h) (zX3_beginSteps  (by exact fun h => by unfold kPub at h; omega)) ?_
                    intro M76 J76 f76 q76
                    obtain ⟨e76_1, e76_2⟩ := q76
                    replace e76_1 := e76_1.symm; subst e76_1
                    replace e76_2 := e76_2.symm; subst e76_2
                    refine Z_aload_n (n := 80) dX3_combine_79 rfl rfl ?_
                    refine Z_iload_n (n := 81) dX3_combine_80 rfl rfl ?_
                    refine Z_aload_n (n := 82) dX3_combine_81 rfl rfl ?_
                    refine Z_iload_n (n := 83) dX3_combine_82 rfl rfl ?_
                    refine Z_iload (n := 85) dX3_combine_83 rfl rfl ?_
                    refine Z_if_eq (n := 88) (t := 97) dX3_combine_85 rfl (by decide) (fun c85 => ?_) (fun c85 => ?_)
                    · refine Z_iconst (n := 98) dX3_combine_97 rfl (by decide) ?_
                      refine Z_iload (n := 100) dX3_combine_98 rfl rfl ?_
                      refine Z_if_eq (n := 103) (t := 113) dX3_combine_100 rfl (by decide) (fun c100 => ?_) (fun c100 => ?_)
                      · refine Z_iconst (n := 114) dX3_combine_113 rfl (by decide) ?_
                        refine Z_iconst (n := 115) dX3_combine_114 rfl (by decide) ?_
                        refine Z_callVi (n := 118) [_, _, _, _] _ dX3_combine_115 rfl cwX3_142 rfl rfl (by first | rfl | exact nS0 (nA_at (by omega) (by omega))) (Nat.le_of_ble_eq_true rfl) (by refine ⟨?_, ?_, ?_, ?_⟩ <;> exact Nat.le_of_ble_eq_true rfl) (fun a h => by unfold kPub at h; unfold kStep; omega) (zX3_kindStep  (by omega) (by omega) (by omega) (by omega) (by omega) (by omega) (by omega) (by omega) (by exact (show pI (uz M 0 8 0) from pI_fr hc.1 (uz_o (by decide)) (uz_o (by decide)) (uz_o (by decide)) (uz_o (by decide))))) ?_
                        intro x115 M115 J115 z115 f115 q115
                        obtain ⟨e115_1, l115, u115, pi115, kn115⟩ := q115
                        replace e115_1 := e115_1.symm; subst e115_1
                        refine Z_callVi (n := 121) [_, _] _ dX3_combine_118 rfl cwX3_133 rfl rfl (by first | rfl | exact nS0 (nA_at (by omega) (by omega))) (Nat.le_of_ble_eq_true rfl) (by refine ⟨?_, ?_, ?_, ?_⟩ <;> exact Nat.le_of_ble_eq_true rfl) (fun a h => by unfold kPub at h; unfold kGive; omega) (zX3_give  (by first | assumption | omega | decide) (by first | assumption | omega | decide) (by first | assumption | omega | decide) (by first | assumption | omega | decide)) ?_
                        intro x118 M118 J118 z118 f118 q118
                        obtain ⟨e118_1, h118⟩ := q118
                        replace e118_1 := e118_1.symm; subst e118_1
                        refine Z_fr (fun frR => ?_)
                        refine Z_iret dX3_combine_121 rfl ?_
                        refine ⟨rfl, cI_mk hc frR (pI_fr pi115 (f118 5 (by decide)).1 (f118 6 (by decide)).1 (f118 10 (by decide)).1 (f118 11 (by decide)).1) (ordOK_fr (show ordOK (uz M 0 8 0) from ordOK_fr hc.2.1 (uz_o (by decide))) (((f118 4 (by decide)).1).trans (f115 4 (by decide)).1)), fun q => ?_⟩
                        first
                          | (have := q f (by omega) (by omega); omega)
                          | (have := q g (by omega) (by omega); omega)
                          | (refine Or.inr (Or.inr (Or.inr ⟨by omega, by omega, by omega, ?_⟩))
                             rcases (show t = 1 ∨ t = 2 by omega) with e | e
                             · have := kn115.1 rfl rfl rfl e; omega
                             · have := kn115.2 rfl rfl rfl e; omega)
                      · refine Z_aload_n (n := 104) dX3_combine_103 rfl rfl ?_
                        refine Z_getA (n := 107) dX3_combine_104 rfl ffX3_29 (by first | rfl | exact nS0 (nA_at (by omega) (by omega))) (by first | rfl | exact nS0 (nA_at (by omega) (by omega))) ?_
                        refine Z_iload (n := 109) dX3_combine_107 rfl rfl ?_
                        refine Z_iald (n := 110) dX3_combine_109 rfl (by first | rfl | exact nS0 (nA_at (by omega) (by omega))) rfl (by first | decide | assumption) (by omega) (by omega) (fun r109 s109 => ?_)
                        try simp only [uz_oo (show (12 : Nat) ≠ 0 by decide)] at r109 s109 ⊢
                        refine Z_goto (t := 114) dX3_combine_110 (by decide) ?_
                        refine Z_iconst (n := 115) dX3_combine_114 rfl (by decide) ?_
                        refine Z_callVi (n := 118) [_, _, _, _] _ dX3_combine_115 rfl cwX3_142 rfl rfl (by first | rfl | exact nS0 (nA_at (by omega) (by omega))) (Nat.le_of_ble_eq_true rfl) (by refine ⟨?_, ?_, ?_, ?_⟩ <;> exact Nat.le_of_ble_eq_true rfl) (fun a h => by unfold kPub at h; unfold kStep; omega) (zX3_kindStep  (by omega) (by omega) (by omega) (by omega) (by omega) (by omega) (by omega) (by omega) (by exact (show pI (uz M 0 8 0) from pI_fr hc.1 (uz_o (by decide)) (uz_o (by decide)) (uz_o (by decide)) (uz_o (by decide))))) ?_
                        intro x115 M115 J115 z115 f115 q115
                        obtain ⟨e115_1, l115, u115, pi115, kn115⟩ := q115
                        replace e115_1 := e115_1.symm; subst e115_1
                        refine Z_callVi (n := 121) [_, _] _ dX3_combine_118 rfl cwX3_133 rfl rfl (by first | rfl | exact nS0 (nA_at (by omega) (by omega))) (Nat.le_of_ble_eq_true rfl) (by refine ⟨?_, ?_, ?_, ?_⟩ <;> exact Nat.le_of_ble_eq_true rfl) (fun a h => by unfold kPub at h; unfold kGive; omega) (zX3_give  (by first | assumption | omega | decide) (by first | assumption | omega | decide) (by first | assumption | omega | decide) (by first | assumption | omega | decide)) ?_
                        intro x118 M118 J118 z118 f118 q118
                        obtain ⟨e118_1, h118⟩ := q118
                        replace e118_1 := e118_1.symm; subst e118_1
                        refine Z_fr (fun frR => ?_)
                        refine Z_iret dX3_combine_121 rfl ?_
                        refine ⟨rfl, cI_mk hc frR (pI_fr pi115 (f118 5 (by decide)).1 (f118 6 (by decide)).1 (f118 10 (by decide)).1 (f118 11 (by decide)).1) (ordOK_fr (show ordOK (uz M 0 8 0) from ordOK_fr hc.2.1 (uz_o (by decide))) (((f118 4 (by decide)).1).trans (f115 4 (by decide)).1)), fun q => ?_⟩
                        first
                          | (have := q f (by omega) (by omega); omega)
                          | (have := q g (by omega) (by omega); omega)
                          | (refine Or.inr (Or.inr (Or.inr ⟨by omega, by omega, by omega, ?_⟩))
                             rcases (show t = 1 ∨ t = 2 by omega) with e | e
                             · have := kn115.1 rfl rfl rfl e; omega
                             · have := kn115.2 rfl rfl rfl e; omega)
                    · refine Z_aload_n (n := 89) dX3_combine_88 rfl rfl ?_
                      refine Z_getA (n := 92) dX3_combine_89 rfl ffX3_29 (by first | rfl | exact nS0 (nA_at (by omega) (by omega))) (by first | rfl | exact nS0 (nA_at (by omega) (by omega))) ?_
                      refine Z_iload_n (n := 93) dX3_combine_92 rfl rfl ?_
                      refine Z_iald (n := 94) dX3_combine_93 rfl (by first | rfl | exact nS0 (nA_at (by omega) (by omega))) rfl (by first | decide | assumption) (by omega) (by omega) (fun r93 s93 => ?_)
                      try simp only [uz_oo (show (12 : Nat) ≠ 0 by decide)] at r93 s93 ⊢
                      refine Z_goto (t := 98) dX3_combine_94 (by decide) ?_
                      refine Z_iload (n := 100) dX3_combine_98 rfl rfl ?_
                      refine Z_if_eq (n := 103) (t := 113) dX3_combine_100 rfl (by decide) (fun c100 => ?_) (fun c100 => ?_)
                      · refine Z_iconst (n := 114) dX3_combine_113 rfl (by decide) ?_
                        refine Z_iconst (n := 115) dX3_combine_114 rfl (by decide) ?_
                        refine Z_callVi (n := 118) [_, _, _, _] _ dX3_combine_115 rfl cwX3_142 rfl rfl (by first | rfl | exact nS0 (nA_at (by omega) (by omega))) (Nat.le_of_ble_eq_true rfl) (by refine ⟨?_, ?_, ?_, ?_⟩ <;> exact Nat.le_of_ble_eq_true rfl) (fun a h => by unfold kPub at h; unfold kStep; omega) (zX3_kindStep  (by omega) (by omega) (by omega) (by omega) (by omega) (by omega) (by omega) (by omega) (by exact (show pI (uz M 0 8 0) from pI_fr hc.1 (uz_o (by decide)) (uz_o (by decide)) (uz_o (by decide)) (uz_o (by decide))))) ?_
                        intro x115 M115 J115 z115 f115 q115
                        obtain ⟨e115_1, l115, u115, pi115, kn115⟩ := q115
                        replace e115_1 := e115_1.symm; subst e115_1
                        refine Z_callVi (n := 121) [_, _] _ dX3_combine_118 rfl cwX3_133 rfl rfl (by first | rfl | exact nS0 (nA_at (by omega) (by omega))) (Nat.le_of_ble_eq_true rfl) (by refine ⟨?_, ?_, ?_, ?_⟩ <;> exact Nat.le_of_ble_eq_true rfl) (fun a h => by unfold kPub at h; unfold kGive; omega) (zX3_give  (by first | assumption | omega | decide) (by first | assumption | omega | decide) (by first | assumption | omega | decide) (by first | assumption | omega | decide)) ?_
                        intro x118 M118 J118 z118 f118 q118
                        obtain ⟨e118_1, h118⟩ := q118
                        replace e118_1 := e118_1.symm; subst e118_1
                        refine Z_fr (fun frR => ?_)
                        refine Z_iret dX3_combine_121 rfl ?_
                        refine ⟨rfl, cI_mk hc frR (pI_fr pi115 (f118 5 (by decide)).1 (f118 6 (by decide)).1 (f118 10 (by decide)).1 (f118 11 (by decide)).1) (ordOK_fr (show ordOK (uz M 0 8 0) from ordOK_fr hc.2.1 (uz_o (by decide))) (((f118 4 (by decide)).1).trans (f115 4 (by decide)).1)), fun q => ?_⟩
                        first
                          | (have := q f (by omega) (by omega); omega)
                          | (have := q g (by omega) (by omega); omega)
                          | (refine Or.inr (Or.inr (Or.inr ⟨by omega, by omega, by omega, ?_⟩))
                             rcases (show t = 1 ∨ t = 2 by omega) with e | e
                             · have := kn115.1 rfl rfl rfl e; omega
                             · have := kn115.2 rfl rfl rfl e; omega)
                      · refine Z_aload_n (n := 104) dX3_combine_103 rfl rfl ?_
                        refine Z_getA (n := 107) dX3_combine_104 rfl ffX3_29 (by first | rfl | exact nS0 (nA_at (by omega) (by omega))) (by first | rfl | exact nS0 (nA_at (by omega) (by omega))) ?_
                        refine Z_iload (n := 109) dX3_combine_107 rfl rfl ?_
                        refine Z_iald (n := 110) dX3_combine_109 rfl (by first | rfl | exact nS0 (nA_at (by omega) (by omega))) rfl (by first | decide | assumption) (by omega) (by omega) (fun r109 s109 => ?_)
                        try simp only [uz_oo (show (12 : Nat) ≠ 0 by decide)] at r109 s109 ⊢
                        refine Z_goto (t := 114) dX3_combine_110 (by decide) ?_
                        refine Z_iconst (n := 115) dX3_combine_114 rfl (by decide) ?_
                        refine Z_callVi (n := 118) [_, _, _, _] _ dX3_combine_115 rfl cwX3_142 rfl rfl (by first | rfl | exact nS0 (nA_at (by omega) (by omega))) (Nat.le_of_ble_eq_true rfl) (by refine ⟨?_, ?_, ?_, ?_⟩ <;> exact Nat.le_of_ble_eq_true rfl) (fun a h => by unfold kPub at h; unfold kStep; omega) (zX3_kindStep  (by omega) (by omega) (by omega) (by omega) (by omega) (by omega) (by omega) (by omega) (by exact (show pI (uz M 0 8 0) from pI_fr hc.1 (uz_o (by decide)) (uz_o (by decide)) (uz_o (by decide)) (uz_o (by decide))))) ?_
                        intro x115 M115 J115 z115 f115 q115
                        obtain ⟨e115_1, l115, u115, pi115, kn115⟩ := q115
                        replace e115_1 := e115_1.symm; subst e115_1
                        refine Z_callVi (n := 121) [_, _] _ dX3_combine_118 rfl cwX3_133 rfl rfl (by first | rfl | exact nS0 (nA_at (by omega) (by omega))) (Nat.le_of_ble_eq_true rfl) (by refine ⟨?_, ?_, ?_, ?_⟩ <;> exact Nat.le_of_ble_eq_true rfl) (fun a h => by unfold kPub at h; unfold kGive; omega) (zX3_give  (by first | assumption | omega | decide) (by first | assumption | omega | decide) (by first | assumption | omega | decide) (by first | assumption | omega | decide)) ?_
                        intro x118 M118 J118 z118 f118 q118
                        obtain ⟨e118_1, h118⟩ := q118
                        replace e118_1 := e118_1.symm; subst e118_1
                        refine Z_fr (fun frR => ?_)
                        refine Z_iret dX3_combine_121 rfl ?_
                        refine ⟨rfl, cI_mk hc frR (pI_fr pi115 (f118 5 (by decide)).1 (f118 6 (by decide)).1 (f118 10 (by decide)).1 (f118 11 (by decide)).1) (ordOK_fr (show ordOK (uz M 0 8 0) from ordOK_fr hc.2.1 (uz_o (by decide))) (((f118 4 (by decide)).1).trans (f115 4 (by decide)).1)), fun q => ?_⟩
                        first
                          | (have := q f (by omega) (by omega); omega)
                          | (have := q g (by omega) (by omega); omega)
                          | (refine Or.inr (Or.inr (Or.inr ⟨by omega, by omega, by omega, ?_⟩))
                             rcases (show t = 1 ∨ t = 2 by omega) with e | e
                             · have := kn115.1 rfl rfl rfl e; omega
                             · have := kn115.2 rfl rfl rfl e; omega)
                  · refine Z_iconst (n := 74) dX3_combine_73 rfl (by decide) ?_
                    refine Z_iret dX3_combine_74 rfl ?_
                    exact ⟨rfl, hc, fun _ => Or.inr (Or.inr (Or.inl ⟨by omega, by omega, by omega, by omega, rfl⟩))⟩
      · refine Z_bipush (n := 21) dX3_combine_19 rfl (by decide) (by decide) ?_
        refine Z_iret dX3_combine_21 rfl ?_
        exact ⟨rfl, hc, fun _ => Or.inr (Or.inl ⟨by omega, by omega, by omega, rfl⟩)⟩
  · refine Z_iconst (n := 8) dX3_combine_7 rfl (by decide) ?_
    refine Z_iret dX3_combine_8 rfl ?_
    exact ⟨rfl, hc, fun _ => Or.inl ⟨by omega, rfl⟩⟩
set_option maxRecDepth 20000 in
theorem zX3_choose {G : tl_G} {M : zM} {J : zJ} {h f g k : Int} (hc : cI M) : ZN G yX3_choose mX3_choose 13 kPub [vR 0, vI h, vI f, vI g, vI k] F1 M J (qI (fun x M' J' => J' = J ∧ cI M' ∧ (noH M → x = -1))) := by
  refine ZN_of (L := [_, _, _, _, _]) (by decide) rfl rfl (Nat.le_of_ble_eq_true rfl) rfl (fun hav => ?_)
  refine Z_iload_n (n := 1) dX3_choose_0 rfl rfl ?_
  refine Z_callSi (n := 4) [_] _ dX3_choose_1 rfl cwX3_123 rfl rfl (Nat.le_of_ble_eq_true rfl) (by refine ⟨?_, ?_, ?_, ?_⟩ <;> exact Nat.le_of_ble_eq_true rfl) (fun _ _ => trivial) (zX3_isHandle  ) ?_
  intro x1 M1 J1 z1 f1 q1
  obtain ⟨e1_1, e1_2, h1⟩ := q1
  replace e1_1 := e1_1.symm; subst e1_1
  replace e1_2 := e1_2.symm; subst e1_2
  refine Z_if_eq (n := 7) (t := 32) dX3_choose_4 rfl (by decide) (fun c4 => ?_) (fun c4 => ?_)
  · refine Z_iconst (n := 33) dX3_choose_32 rfl (by decide) ?_
    refine Z_iret dX3_choose_33 rfl ?_
    exact ⟨rfl, hc, fun _ => rfl⟩
  · refine Z_aload_n (n := 8) dX3_choose_7 rfl rfl ?_
    refine Z_iload_n (n := 9) dX3_choose_8 rfl rfl ?_
    refine Z_callVi (n := 12) [_] _ dX3_choose_9 rfl cwX3_139 rfl rfl (by first | rfl | exact nS0 (nA_at (by omega) (by omega))) (Nat.le_of_ble_eq_true rfl) (by refine ⟨?_, ?_, ?_, ?_⟩ <;> exact Nat.le_of_ble_eq_true rfl) (fun _ _ => trivial) (zX3_hasFunction  ) ?_
    intro x9 M9 J9 z9 f9 q9
    obtain ⟨e9_1, e9_2, h9⟩ := q9
    replace e9_1 := e9_1.symm; subst e9_1
    replace e9_2 := e9_2.symm; subst e9_2
    refine Z_if_eq (n := 15) (t := 32) dX3_choose_12 rfl (by decide) (fun c12 => ?_) (fun c12 => ?_)
    · refine Z_iconst (n := 33) dX3_choose_32 rfl (by decide) ?_
      refine Z_iret dX3_choose_33 rfl ?_
      exact ⟨rfl, hc, fun _ => rfl⟩
    · refine Z_aload_n (n := 16) dX3_choose_15 rfl rfl ?_
      refine Z_iload_n (n := 17) dX3_choose_16 rfl rfl ?_
      refine Z_callVi (n := 20) [_] _ dX3_choose_17 rfl cwX3_139 rfl rfl (by first | rfl | exact nS0 (nA_at (by omega) (by omega))) (Nat.le_of_ble_eq_true rfl) (by refine ⟨?_, ?_, ?_, ?_⟩ <;> exact Nat.le_of_ble_eq_true rfl) (fun _ _ => trivial) (zX3_hasFunction  ) ?_
      intro x17 M17 J17 z17 f17 q17
      obtain ⟨e17_1, e17_2, h17⟩ := q17
      replace e17_1 := e17_1.symm; subst e17_1
      replace e17_2 := e17_2.symm; subst e17_2
      refine Z_if_eq (n := 23) (t := 32) dX3_choose_20 rfl (by decide) (fun c20 => ?_) (fun c20 => ?_)
      · refine Z_iconst (n := 33) dX3_choose_32 rfl (by decide) ?_
        refine Z_iret dX3_choose_33 rfl ?_
        exact ⟨rfl, hc, fun _ => rfl⟩
      · refine Z_aload_n (n := 24) dX3_choose_23 rfl rfl ?_
        refine Z_iload (n := 26) dX3_choose_24 rfl rfl ?_
        refine Z_callVi (n := 29) [_] _ dX3_choose_26 rfl cwX3_139 rfl rfl (by first | rfl | exact nS0 (nA_at (by omega) (by omega))) (Nat.le_of_ble_eq_true rfl) (by refine ⟨?_, ?_, ?_, ?_⟩ <;> exact Nat.le_of_ble_eq_true rfl) (fun _ _ => trivial) (zX3_hasFunction  ) ?_
        intro x26 M26 J26 z26 f26 q26
        obtain ⟨e26_1, e26_2, h26⟩ := q26
        replace e26_1 := e26_1.symm; subst e26_1
        replace e26_2 := e26_2.symm; subst e26_2
        refine Z_if_ne (n := 32) (t := 34) dX3_choose_29 rfl (by decide) (fun c29 => ?_) (fun c29 => ?_)
        · refine Z_aload_n (n := 35) dX3_choose_34 rfl rfl ?_
          refine Z_callVv (n := 38) [] _ dX3_choose_35 rfl cwX3_126 rfl rfl (by first | rfl | exact nS0 (nA_at (by omega) (by omega))) (Nat.le_of_ble_eq_true rfl) (by refine ⟨?_, ?_, ?_, ?_⟩ <;> exact Nat.le_of_ble_eq_true rfl) (fun _ h => h) (zX3_beginSteps  (by exact fun h => by unfold kPub at h; omega)) ?_
          intro M35 J35 f35 q35
          obtain ⟨e35_1, e35_2⟩ := q35
          replace e35_1 := e35_1.symm; subst e35_1
          replace e35_2 := e35_2.symm; subst e35_2
          refine Z_aload_n (n := 39) dX3_choose_38 rfl rfl ?_
          refine Z_iload_n (n := 40) dX3_choose_39 rfl rfl ?_
          refine Z_aload_n (n := 41) dX3_choose_40 rfl rfl ?_
          refine Z_bipush (n := 43) dX3_choose_41 rfl (by decide) (by decide) ?_
          refine Z_aload_n (n := 44) dX3_choose_43 rfl rfl ?_
          refine Z_getA (n := 47) dX3_choose_44 rfl ffX3_29 (by first | rfl | exact nS0 (nA_at (by omega) (by omega))) (by first | rfl | exact nS0 (nA_at (by omega) (by omega))) ?_
          refine Z_iload_n (n := 48) dX3_choose_47 rfl rfl ?_
          refine Z_iald (n := 49) dX3_choose_48 rfl (by first | rfl | exact nS0 (nA_at (by omega) (by omega))) rfl (by first | decide | assumption) (by omega) (by omega) (fun r48 s48 => ?_)
          try simp only [uz_oo (show (12 : Nat) ≠ 0 by decide)] at r48 s48 ⊢
          refine Z_aload_n (n := 50) dX3_choose_49 rfl rfl ?_
          refine Z_getA (n := 53) dX3_choose_50 rfl ffX3_29 (by first | rfl | exact nS0 (nA_at (by omega) (by omega))) (by first | rfl | exact nS0 (nA_at (by omega) (by omega))) ?_
          refine Z_iload_n (n := 54) dX3_choose_53 rfl rfl ?_
          refine Z_iald (n := 55) dX3_choose_54 rfl (by first | rfl | exact nS0 (nA_at (by omega) (by omega))) rfl (by first | decide | assumption) (by omega) (by omega) (fun r54 s54 => ?_)
          try simp only [uz_oo (show (12 : Nat) ≠ 0 by decide)] at r54 s54 ⊢
          refine Z_aload_n (n := 56) dX3_choose_55 rfl rfl ?_
          refine Z_getA (n := 59) dX3_choose_56 rfl ffX3_29 (by first | rfl | exact nS0 (nA_at (by omega) (by omega))) (by first | rfl | exact nS0 (nA_at (by omega) (by omega))) ?_
          refine Z_iload (n := 61) dX3_choose_59 rfl rfl ?_
          refine Z_iald (n := 62) dX3_choose_61 rfl (by first | rfl | exact nS0 (nA_at (by omega) (by omega))) rfl (by first | decide | assumption) (by omega) (by omega) (fun r61 s61 => ?_)
          try simp only [uz_oo (show (12 : Nat) ≠ 0 by decide)] at r61 s61 ⊢
          refine Z_callVi (n := 65) [_, _, _, _] _ dX3_choose_62 rfl cwX3_142 rfl rfl (by first | rfl | exact nS0 (nA_at (by omega) (by omega))) (Nat.le_of_ble_eq_true rfl) (by refine ⟨?_, ?_, ?_, ?_⟩ <;> exact Nat.le_of_ble_eq_true rfl) (fun a h => by unfold kPub at h; unfold kStep; omega) (zX3_kindStep  (by omega) (by omega) (by omega) (by omega) (by omega) (by omega) (by omega) (by omega) (by exact (show pI (uz M 0 8 0) from pI_fr hc.1 (uz_o (by decide)) (uz_o (by decide)) (uz_o (by decide)) (uz_o (by decide))))) ?_
          intro x62 M62 J62 z62 f62 q62
          obtain ⟨e62_1, l62, u62, pi62, -⟩ := q62
          replace e62_1 := e62_1.symm; subst e62_1
          refine Z_callVi (n := 68) [_, _] _ dX3_choose_65 rfl cwX3_133 rfl rfl (by first | rfl | exact nS0 (nA_at (by omega) (by omega))) (Nat.le_of_ble_eq_true rfl) (by refine ⟨?_, ?_, ?_, ?_⟩ <;> exact Nat.le_of_ble_eq_true rfl) (fun a h => by unfold kPub at h; unfold kGive; omega) (zX3_give  (by first | assumption | omega | decide) (by first | assumption | omega | decide) (by first | assumption | omega | decide) (by first | assumption | omega | decide)) ?_
          intro x65 M65 J65 z65 f65 q65
          obtain ⟨e65_1, h65⟩ := q65
          replace e65_1 := e65_1.symm; subst e65_1
          refine Z_fr (fun frR => ?_)
          refine Z_iret dX3_choose_68 rfl ?_
          exact ⟨rfl, cI_mk hc frR (pI_fr pi62 (f65 5 (by decide)).1 (f65 6 (by decide)).1 (f65 10 (by decide)).1 (f65 11 (by decide)).1) (ordOK_fr (show ordOK (uz M 0 8 0) from ordOK_fr hc.2.1 (uz_o (by decide))) (((f65 4 (by decide)).1).trans (f62 4 (by decide)).1)), fun q => by have := q f (by omega) (by omega); omega⟩
        · refine Z_iconst (n := 33) dX3_choose_32 rfl (by decide) ?_
          refine Z_iret dX3_choose_33 rfl ?_
          exact ⟨rfl, hc, fun _ => rfl⟩
set_option maxRecDepth 20000 in
theorem zX3_restrict {G : tl_G} {M : zM} {J : zJ} {h f v y : Int} (hc : cI M) : ZN G yX3_restrict mX3_restrict 13 kPub [vR 0, vI h, vI f, vI v, vI y] F1 M J (qI (fun x M' J' => J' = J ∧ cI M' ∧ (noH M → x = -1))) := by
  refine ZN_of (L := [_, _, _, _, _]) (by decide) rfl rfl (Nat.le_of_ble_eq_true rfl) rfl (fun hav => ?_)
  refine Z_iload_n (n := 1) dX3_restrict_0 rfl rfl ?_
  refine Z_callSi (n := 4) [_] _ dX3_restrict_1 rfl cwX3_123 rfl rfl (Nat.le_of_ble_eq_true rfl) (by refine ⟨?_, ?_, ?_, ?_⟩ <;> exact Nat.le_of_ble_eq_true rfl) (fun _ _ => trivial) (zX3_isHandle  ) ?_
  intro x1 M1 J1 z1 f1 q1
  obtain ⟨e1_1, e1_2, h1⟩ := q1
  replace e1_1 := e1_1.symm; subst e1_1
  replace e1_2 := e1_2.symm; subst e1_2
  refine Z_if_eq (n := 7) (t := 15) dX3_restrict_4 rfl (by decide) (fun c4 => ?_) (fun c4 => ?_)
  · refine Z_iconst (n := 16) dX3_restrict_15 rfl (by decide) ?_
    refine Z_iret dX3_restrict_16 rfl ?_
    exact ⟨rfl, hc, fun _ => rfl⟩
  · refine Z_aload_n (n := 8) dX3_restrict_7 rfl rfl ?_
    refine Z_iload_n (n := 9) dX3_restrict_8 rfl rfl ?_
    refine Z_callVi (n := 12) [_] _ dX3_restrict_9 rfl cwX3_139 rfl rfl (by first | rfl | exact nS0 (nA_at (by omega) (by omega))) (Nat.le_of_ble_eq_true rfl) (by refine ⟨?_, ?_, ?_, ?_⟩ <;> exact Nat.le_of_ble_eq_true rfl) (fun _ _ => trivial) (zX3_hasFunction  ) ?_
    intro x9 M9 J9 z9 f9 q9
    obtain ⟨e9_1, e9_2, h9⟩ := q9
    replace e9_1 := e9_1.symm; subst e9_1
    replace e9_2 := e9_2.symm; subst e9_2
    refine Z_if_ne (n := 15) (t := 17) dX3_restrict_12 rfl (by decide) (fun c12 => ?_) (fun c12 => ?_)
    · refine Z_iload_n (n := 18) dX3_restrict_17 rfl rfl ?_
      refine Z_callSi (n := 21) [_] _ dX3_restrict_18 rfl cwX3_70 rfl rfl (Nat.le_of_ble_eq_true rfl) (by refine ⟨?_, ?_, ?_, ?_⟩ <;> exact Nat.le_of_ble_eq_true rfl) (fun _ _ => trivial) (zX3_isVariable  ) ?_
      intro x18 M18 J18 z18 f18 q18
      obtain ⟨e18_1, e18_2, h18⟩ := q18
      replace e18_1 := e18_1.symm; subst e18_1
      replace e18_2 := e18_2.symm; subst e18_2
      refine Z_if_ne (n := 24) (t := 27) dX3_restrict_21 rfl (by decide) (fun c21 => ?_) (fun c21 => ?_)
      · refine Z_aload_n (n := 28) dX3_restrict_27 rfl rfl ?_
        refine Z_callVv (n := 31) [] _ dX3_restrict_28 rfl cwX3_126 rfl rfl (by first | rfl | exact nS0 (nA_at (by omega) (by omega))) (Nat.le_of_ble_eq_true rfl) (by refine ⟨?_, ?_, ?_, ?_⟩ <;> exact Nat.le_of_ble_eq_true rfl) (fun _ h => h) (zX3_beginSteps  (by exact fun h => by unfold kPub at h; omega)) ?_
        intro M28 J28 f28 q28
        obtain ⟨e28_1, e28_2⟩ := q28
        replace e28_1 := e28_1.symm; subst e28_1
        replace e28_2 := e28_2.symm; subst e28_2
        refine Z_aload_n (n := 32) dX3_restrict_31 rfl rfl ?_
        refine Z_iload_n (n := 33) dX3_restrict_32 rfl rfl ?_
        refine Z_aload_n (n := 34) dX3_restrict_33 rfl rfl ?_
        refine Z_aload_n (n := 35) dX3_restrict_34 rfl rfl ?_
        refine Z_getA (n := 38) dX3_restrict_35 rfl ffX3_29 (by first | rfl | exact nS0 (nA_at (by omega) (by omega))) (by first | rfl | exact nS0 (nA_at (by omega) (by omega))) ?_
        refine Z_iload_n (n := 39) dX3_restrict_38 rfl rfl ?_
        refine Z_iald (n := 40) dX3_restrict_39 rfl (by first | rfl | exact nS0 (nA_at (by omega) (by omega))) rfl (by first | decide | assumption) (by omega) (by omega) (fun r39 s39 => ?_)
        try simp only [uz_oo (show (12 : Nat) ≠ 0 by decide)] at r39 s39 ⊢
        refine Z_iload_n (n := 41) dX3_restrict_40 rfl rfl ?_
        refine Z_iload (n := 43) dX3_restrict_41 rfl rfl ?_
        refine Z_callVi (n := 46) [_, _, _] _ dX3_restrict_43 rfl cwX3_145 rfl rfl (by first | rfl | exact nS0 (nA_at (by omega) (by omega))) (Nat.le_of_ble_eq_true rfl) (by refine ⟨?_, ?_, ?_, ?_⟩ <;> exact Nat.le_of_ble_eq_true rfl) (fun a h => by unfold kPub at h; unfold kStep; omega) (zX3_fixStep  (by omega) (by omega) (by omega) (by omega) (by exact (show pI (uz M 0 8 0) from pI_fr hc.1 (uz_o (by decide)) (uz_o (by decide)) (uz_o (by decide)) (uz_o (by decide)))) (by exact (show ordOK (uz M 0 8 0) from ordOK_fr hc.2.1 (uz_o (by decide))))) ?_
        intro x43 M43 J43 z43 f43 q43
        obtain ⟨e43_1, l43, u43, pi43⟩ := q43
        replace e43_1 := e43_1.symm; subst e43_1
        refine Z_callVi (n := 49) [_, _] _ dX3_restrict_46 rfl cwX3_133 rfl rfl (by first | rfl | exact nS0 (nA_at (by omega) (by omega))) (Nat.le_of_ble_eq_true rfl) (by refine ⟨?_, ?_, ?_, ?_⟩ <;> exact Nat.le_of_ble_eq_true rfl) (fun a h => by unfold kPub at h; unfold kGive; omega) (zX3_give  (by first | assumption | omega | decide) (by first | assumption | omega | decide) (by first | assumption | omega | decide) (by first | assumption | omega | decide)) ?_
        intro x46 M46 J46 z46 f46 q46
        obtain ⟨e46_1, h46⟩ := q46
        replace e46_1 := e46_1.symm; subst e46_1
        refine Z_fr (fun frR => ?_)
        refine Z_iret dX3_restrict_49 rfl ?_
        exact ⟨rfl, cI_mk hc frR (pI_fr pi43 (f46 5 (by decide)).1 (f46 6 (by decide)).1 (f46 10 (by decide)).1 (f46 11 (by decide)).1) (ordOK_fr (show ordOK (uz M 0 8 0) from ordOK_fr hc.2.1 (uz_o (by decide))) (((f46 4 (by decide)).1).trans (f43 4 (by decide)).1)), fun q => by have := q f (by omega) (by omega); omega⟩
      · refine Z_bipush (n := 26) dX3_restrict_24 rfl (by decide) (by decide) ?_
        refine Z_iret dX3_restrict_26 rfl ?_
        exact ⟨rfl, hc, fun q => by have := q f (by omega) (by omega); omega⟩
    · refine Z_iconst (n := 16) dX3_restrict_15 rfl (by decide) ?_
      refine Z_iret dX3_restrict_16 rfl ?_
      exact ⟨rfl, hc, fun _ => rfl⟩
