/-! ===== the reference: small methods ===== -/
def noHr (M : zM) : Prop := ∀ h : Int, 0 ≤ h → h < 12 → M 43 h = 0
def noOutR (M : zM) : Prop := ∀ j : Int, 0 ≤ j → j < 3 → M 33 j = 0
def exHr (M : zM) : Prop := ∃ h : Int, 0 ≤ h ∧ h < 12 ∧ ¬ M 43 h = 0
theorem pre_up {f : Int → Int} {i : Int} (h : ∀ k : Int, 0 ≤ k → k < i → f k = 0) (hi : f i = 0) : ∀ k : Int, 0 ≤ k → k < i + 1 → f k = 0 := by
  intro k k0 k1
  by_cases q : k = i
  · subst q; exact hi
  · exact h k k0 (by omega)
def rOrd (M : zM) : Prop := ∀ v : Int, 0 ≤ v → v < 8 → 0 ≤ M 39 v
abbrev kMv (a : Nat) : Prop := ¬ a = 38 ∧ ¬ a = 39
set_option maxRecDepth 20000 in
theorem zX4_in {G : tl_G} {M : zM} {J : zJ} {v l h : Int}  : ZN G yX4_in mX4_in 0 kAll [vI v, vI l, vI h] F1 M J (qI (fun x M' J' => M' = M ∧ J' = J ∧ ((x = 1 ∧ l ≤ v ∧ v ≤ h) ∨ (x = 0 ∧ (v < l ∨ h < v))))) := by
  refine ZN_of (L := [_, _, _]) (by decide) rfl rfl (Nat.le_of_ble_eq_true rfl) rfl (fun hav => ?_)
  refine Z_iload_n (n := 1) dX4_in_0 rfl rfl ?_
  refine Z_iload_n (n := 2) dX4_in_1 rfl rfl ?_
  refine Z_icmp_lt (n := 5) (t := 14) dX4_in_2 rfl (by decide) (fun c2 => ?_) (fun c2 => ?_)
  · refine Z_iconst (n := 15) dX4_in_14 rfl (by decide) ?_
    refine Z_zret dX4_in_15 rfl (by first | assumption | omega | decide) (by first | assumption | omega | decide) ?_
    refine ⟨rfl, rfl, ?_⟩; omega
  · refine Z_iload_n (n := 6) dX4_in_5 rfl rfl ?_
    refine Z_iload_n (n := 7) dX4_in_6 rfl rfl ?_
    refine Z_icmp_gt (n := 10) (t := 14) dX4_in_7 rfl (by decide) (fun c7 => ?_) (fun c7 => ?_)
    · refine Z_iconst (n := 15) dX4_in_14 rfl (by decide) ?_
      refine Z_zret dX4_in_15 rfl (by first | assumption | omega | decide) (by first | assumption | omega | decide) ?_
      refine ⟨rfl, rfl, ?_⟩; omega
    · refine Z_iconst (n := 11) dX4_in_10 rfl (by decide) ?_
      refine Z_goto (t := 15) dX4_in_11 (by decide) ?_
      refine Z_zret dX4_in_15 rfl (by first | assumption | omega | decide) (by first | assumption | omega | decide) ?_
      refine ⟨rfl, rfl, ?_⟩; omega
set_option maxRecDepth 20000 in
theorem zX4_isNet {G : tl_G} {M : zM} {J : zJ} {v : Int}  : ZN G yX4_isNet mX4_isNet 1 kAll [vI v] F1 M J (qI (fun x M' J' => M' = M ∧ J' = J ∧ ((x = 1 ∧ 0 ≤ v ∧ v < 3) ∨ (x = 0 ∧ (v < 0 ∨ 3 ≤ v))))) := by
  refine ZN_of (L := [_]) (by decide) rfl rfl (Nat.le_of_ble_eq_true rfl) rfl (fun hav => ?_)
  refine Z_iload_n (n := 1) dX4_isNet_0 rfl rfl ?_
  refine Z_iconst (n := 2) dX4_isNet_1 rfl (by decide) ?_
  refine Z_iconst (n := 3) dX4_isNet_2 rfl (by decide) ?_
  refine Z_callSi (n := 6) [_, _, _] _ dX4_isNet_3 rfl cwX4_112 rfl rfl (Nat.le_of_ble_eq_true rfl) (by refine ⟨?_, ?_, ?_, ?_⟩ <;> exact Nat.le_of_ble_eq_true rfl) (fun _ h => h) (zX4_in  ) ?_
  intro x3 M3 J3 z3 f3 q3
  obtain ⟨e3_1, e3_2, h3⟩ := q3
  replace e3_1 := e3_1.symm; subst e3_1
  replace e3_2 := e3_2.symm; subst e3_2
  refine Z_zret dX4_isNet_6 rfl (by first | assumption | omega | decide) (by first | assumption | omega | decide) ?_
  refine ⟨rfl, rfl, ?_⟩; omega
set_option maxRecDepth 20000 in
theorem zX4_isHandle {G : tl_G} {M : zM} {J : zJ} {v : Int}  : ZN G yX4_isHandle mX4_isHandle 1 kAll [vI v] F1 M J (qI (fun x M' J' => M' = M ∧ J' = J ∧ ((x = 1 ∧ 0 ≤ v ∧ v < 12) ∨ (x = 0 ∧ (v < 0 ∨ 12 ≤ v))))) := by
  refine ZN_of (L := [_]) (by decide) rfl rfl (Nat.le_of_ble_eq_true rfl) rfl (fun hav => ?_)
  refine Z_iload_n (n := 1) dX4_isHandle_0 rfl rfl ?_
  refine Z_iconst (n := 2) dX4_isHandle_1 rfl (by decide) ?_
  refine Z_bipush (n := 4) dX4_isHandle_2 rfl (by decide) (by decide) ?_
  refine Z_callSi (n := 7) [_, _, _] _ dX4_isHandle_4 rfl cwX4_112 rfl rfl (Nat.le_of_ble_eq_true rfl) (by refine ⟨?_, ?_, ?_, ?_⟩ <;> exact Nat.le_of_ble_eq_true rfl) (fun _ h => h) (zX4_in  ) ?_
  intro x4 M4 J4 z4 f4 q4
  obtain ⟨e4_1, e4_2, h4⟩ := q4
  replace e4_1 := e4_1.symm; subst e4_1
  replace e4_2 := e4_2.symm; subst e4_2
  refine Z_zret dX4_isHandle_7 rfl (by first | assumption | omega | decide) (by first | assumption | omega | decide) ?_
  refine ⟨rfl, rfl, ?_⟩; omega
set_option maxRecDepth 20000 in
theorem zX4_isGate {G : tl_G} {M : zM} {J : zJ} {n g : Int} (h0 : 0 ≤ n) (h1 : n < 3) : ZN G yX4_isGate mX4_isGate 1 kAll [vR 31, vI n, vI g] F1 M J (qI (fun x M' J' => M' = M ∧ J' = J ∧ ((x = 1 ∧ 0 ≤ g ∧ g < M 32 n) ∨ (x = 0 ∧ (g < 0 ∨ M 32 n ≤ g))))) := by
  refine ZN_of (L := [_, _, _]) (by decide) rfl rfl (Nat.le_of_ble_eq_true rfl) rfl (fun hav => ?_)
  refine Z_iload_n (n := 1) dX4_isGate_0 rfl rfl ?_
  refine Z_iconst (n := 2) dX4_isGate_1 rfl (by decide) ?_
  refine Z_aload_n (n := 3) dX4_isGate_2 rfl rfl ?_
  refine Z_getA (n := 6) dX4_isGate_3 rfl ffX4_7 rfl rfl ?_
  refine Z_iload_n (n := 7) dX4_isGate_6 rfl rfl ?_
  refine Z_iald (n := 8) dX4_isGate_7 rfl rfl rfl (by first | decide | assumption) (by omega) (by omega) (fun r7 s7 => ?_)
  refine Z_iconst (n := 9) dX4_isGate_8 rfl (by decide) ?_
  refine Z_isub (n := 10) dX4_isGate_9 rfl (by omega) ?_
  refine Z_callSi (n := 13) [_, _, _] _ dX4_isGate_10 rfl cwX4_112 rfl rfl (Nat.le_of_ble_eq_true rfl) (by refine ⟨?_, ?_, ?_, ?_⟩ <;> exact Nat.le_of_ble_eq_true rfl) (fun _ h => h) (zX4_in  ) ?_
  intro x10 M10 J10 z10 f10 q10
  obtain ⟨e10_1, e10_2, h10⟩ := q10
  replace e10_1 := e10_1.symm; subst e10_1
  replace e10_2 := e10_2.symm; subst e10_2
  refine Z_zret dX4_isGate_13 rfl (by first | assumption | omega | decide) (by first | assumption | omega | decide) ?_
  refine ⟨rfl, rfl, ?_⟩; omega
set_option maxRecDepth 20000 in
theorem zX4_isOutput {G : tl_G} {M : zM} {J : zJ} {n g : Int}  : ZN G yX4_isOutput mX4_isOutput 2 kAll [vR 31, vI n, vI g] F1 M J (qI (fun x M' J' => M' = M ∧ J' = J ∧ ((x = 1 ∧ 0 ≤ n ∧ n < 3 ∧ 0 ≤ g ∧ g < M 33 n) ∨ (x = 0 ∧ (n < 0 ∨ 3 ≤ n ∨ g < 0 ∨ M 33 n ≤ g))))) := by
  refine ZN_of (L := [_, _, _]) (by decide) rfl rfl (Nat.le_of_ble_eq_true rfl) rfl (fun hav => ?_)
  refine Z_iload_n (n := 1) dX4_isOutput_0 rfl rfl ?_
  refine Z_callSi (n := 4) [_] _ dX4_isOutput_1 rfl cwX4_116 rfl rfl (Nat.le_of_ble_eq_true rfl) (by refine ⟨?_, ?_, ?_, ?_⟩ <;> exact Nat.le_of_ble_eq_true rfl) (fun _ h => h) (zX4_isNet  ) ?_
  intro x1 M1 J1 z1 f1 q1
  obtain ⟨e1_1, e1_2, h1⟩ := q1
  replace e1_1 := e1_1.symm; subst e1_1
  replace e1_2 := e1_2.symm; subst e1_2
  refine Z_if_eq (n := 7) (t := 27) dX4_isOutput_4 rfl (by decide) (fun c4 => ?_) (fun c4 => ?_)
  · refine Z_iconst (n := 28) dX4_isOutput_27 rfl (by decide) ?_
    refine Z_zret dX4_isOutput_28 rfl (by first | assumption | omega | decide) (by first | assumption | omega | decide) ?_
    refine ⟨rfl, rfl, ?_⟩; omega
  · refine Z_iload_n (n := 8) dX4_isOutput_7 rfl rfl ?_
    refine Z_iconst (n := 9) dX4_isOutput_8 rfl (by decide) ?_
    refine Z_aload_n (n := 10) dX4_isOutput_9 rfl rfl ?_
    refine Z_getA (n := 13) dX4_isOutput_10 rfl ffX4_13 rfl rfl ?_
    refine Z_iload_n (n := 14) dX4_isOutput_13 rfl rfl ?_
    refine Z_iald (n := 15) dX4_isOutput_14 rfl rfl rfl (by first | decide | assumption) (by omega) (by omega) (fun r14 s14 => ?_)
    refine Z_iconst (n := 16) dX4_isOutput_15 rfl (by decide) ?_
    refine Z_isub (n := 17) dX4_isOutput_16 rfl (by omega) ?_
    refine Z_callSi (n := 20) [_, _, _] _ dX4_isOutput_17 rfl cwX4_112 rfl rfl (Nat.le_of_ble_eq_true rfl) (by refine ⟨?_, ?_, ?_, ?_⟩ <;> exact Nat.le_of_ble_eq_true rfl) (fun _ h => h) (zX4_in  ) ?_
    intro x17 M17 J17 z17 f17 q17
    obtain ⟨e17_1, e17_2, h17⟩ := q17
    replace e17_1 := e17_1.symm; subst e17_1
    replace e17_2 := e17_2.symm; subst e17_2
    refine Z_if_eq (n := 23) (t := 27) dX4_isOutput_20 rfl (by decide) (fun c20 => ?_) (fun c20 => ?_)
    · refine Z_iconst (n := 28) dX4_isOutput_27 rfl (by decide) ?_
      refine Z_zret dX4_isOutput_28 rfl (by first | assumption | omega | decide) (by first | assumption | omega | decide) ?_
      refine ⟨rfl, rfl, ?_⟩; omega
    · refine Z_iconst (n := 24) dX4_isOutput_23 rfl (by decide) ?_
      refine Z_goto (t := 28) dX4_isOutput_24 (by decide) ?_
      refine Z_zret dX4_isOutput_28 rfl (by first | assumption | omega | decide) (by first | assumption | omega | decide) ?_
      refine ⟨rfl, rfl, ?_⟩; omega
set_option maxRecDepth 20000 in
theorem zX4_wants {G : tl_G} {M : zM} {J : zJ} {k : Int}  : ZN G yX4_wants mX4_wants 0 kAll [vI k] F1 M J (qI (fun x M' J' => M' = M ∧ J' = J ∧ x = opF k)) := by
  refine ZN_of (L := [_]) (by decide) rfl rfl (Nat.le_of_ble_eq_true rfl) rfl (fun hav => ?_)
  refine Z_iload_n (n := 1) dX4_wants_0 rfl rfl ?_
  refine Z_iconst (n := 2) dX4_wants_1 rfl (by decide) ?_
  refine Z_icmp_ge (n := 5) (t := 9) dX4_wants_2 rfl (by decide) (fun c2 => ?_) (fun c2 => ?_)
  · refine Z_iload_n (n := 10) dX4_wants_9 rfl rfl ?_
    refine Z_iconst (n := 11) dX4_wants_10 rfl (by decide) ?_
    refine Z_icmp_ne (n := 14) (t := 18) dX4_wants_11 rfl (by decide) (fun c11 => ?_) (fun c11 => ?_)
    · refine Z_iload_n (n := 19) dX4_wants_18 rfl rfl ?_
      refine Z_bipush (n := 21) dX4_wants_19 rfl (by decide) (by decide) ?_
      refine Z_icmp_ge (n := 24) (t := 28) dX4_wants_21 rfl (by decide) (fun c21 => ?_) (fun c21 => ?_)
      · refine Z_iconst (n := 29) dX4_wants_28 rfl (by decide) ?_
        refine Z_iret dX4_wants_29 rfl ?_
        refine ⟨rfl, rfl, ?_⟩; unfold opF; (repeat' split) <;> omega
      · refine Z_iconst (n := 25) dX4_wants_24 rfl (by decide) ?_
        refine Z_goto (t := 29) dX4_wants_25 (by decide) ?_
        refine Z_iret dX4_wants_29 rfl ?_
        refine ⟨rfl, rfl, ?_⟩; unfold opF; (repeat' split) <;> omega
    · refine Z_iconst (n := 15) dX4_wants_14 rfl (by decide) ?_
      refine Z_goto (t := 29) dX4_wants_15 (by decide) ?_
      refine Z_iret dX4_wants_29 rfl ?_
      refine ⟨rfl, rfl, ?_⟩; unfold opF; (repeat' split) <;> omega
  · refine Z_iconst (n := 6) dX4_wants_5 rfl (by decide) ?_
    refine Z_goto (t := 29) dX4_wants_6 (by decide) ?_
    refine Z_iret dX4_wants_29 rfl ?_
    refine ⟨rfl, rfl, ?_⟩; unfold opF; (repeat' split) <;> omega
set_option maxRecDepth 20000 in
theorem zX4_isFunction {G : tl_G} {M : zM} {J : zJ} {f : Int}  : ZN G yX4_isFunction mX4_isFunction 2 kAll [vR 31, vI f] F1 M J (qI (fun x M' J' => M' = M ∧ J' = J ∧ ((x = 1 ∧ 0 ≤ f ∧ f < 12 ∧ ¬ M 43 f = 0) ∨ (x = 0 ∧ (f < 0 ∨ 12 ≤ f ∨ M 43 f = 0))))) := by
  refine ZN_of (L := [_, _]) (by decide) rfl rfl (Nat.le_of_ble_eq_true rfl) rfl (fun hav => ?_)
  refine Z_iload_n (n := 1) dX4_isFunction_0 rfl rfl ?_
  refine Z_callSi (n := 4) [_] _ dX4_isFunction_1 rfl cwX4_210 rfl rfl (Nat.le_of_ble_eq_true rfl) (by refine ⟨?_, ?_, ?_, ?_⟩ <;> exact Nat.le_of_ble_eq_true rfl) (fun _ h => h) (zX4_isHandle  ) ?_
  intro x1 M1 J1 z1 f1 q1
  obtain ⟨e1_1, e1_2, h1⟩ := q1
  replace e1_1 := e1_1.symm; subst e1_1
  replace e1_2 := e1_2.symm; subst e1_2
  refine Z_if_eq (n := 7) (t := 20) dX4_isFunction_4 rfl (by decide) (fun c4 => ?_) (fun c4 => ?_)
  · refine Z_iconst (n := 21) dX4_isFunction_20 rfl (by decide) ?_
    refine Z_zret dX4_isFunction_21 rfl (by first | assumption | omega | decide) (by first | assumption | omega | decide) ?_
    refine ⟨rfl, rfl, ?_⟩; omega
  · refine Z_aload_n (n := 8) dX4_isFunction_7 rfl rfl ?_
    refine Z_getA (n := 11) dX4_isFunction_8 rfl ffX4_44 rfl rfl ?_
    refine Z_iload_n (n := 12) dX4_isFunction_11 rfl rfl ?_
    refine Z_zald (n := 13) dX4_isFunction_12 rfl rfl rfl (by first | decide | assumption) (by omega) (by omega) (fun r12 s12 => ?_)
    refine Z_if_eq (n := 16) (t := 20) dX4_isFunction_13 rfl (by decide) (fun c13 => ?_) (fun c13 => ?_)
    · refine Z_iconst (n := 21) dX4_isFunction_20 rfl (by decide) ?_
      refine Z_zret dX4_isFunction_21 rfl (by first | assumption | omega | decide) (by first | assumption | omega | decide) ?_
      refine ⟨rfl, rfl, ?_⟩; omega
    · refine Z_iconst (n := 17) dX4_isFunction_16 rfl (by decide) ?_
      refine Z_goto (t := 21) dX4_isFunction_17 (by decide) ?_
      refine Z_zret dX4_isFunction_21 rfl (by first | assumption | omega | decide) (by first | assumption | omega | decide) ?_
      refine ⟨rfl, rfl, ?_⟩; omega
set_option maxRecDepth 20000 in
theorem zX4_isEmpty {G : tl_G} {M : zM} {J : zJ}   : ZN G yX4_isEmpty mX4_isEmpty 0 kAll [vR 31] F1 M J (qI (fun x M' J' => M' = M ∧ J' = J ∧ ((x = 1 ∧ noHr M) ∨ (x = 0 ∧ exHr M)))) := by
  refine ZN_of (L := [_, _, _]) (by decide) rfl rfl (Nat.le_of_ble_eq_true rfl) rfl (fun hav => ?_)
  refine Z_iconst (n := 1) dX4_isEmpty_0 rfl (by decide) ?_
  refine Z_istore_n (L' := [_, _, _]) (n := 2) dX4_isEmpty_1 rfl (by decide) rfl rfl ?_
  refine Z_iconst (n := 3) dX4_isEmpty_2 rfl (by decide) ?_
  refine Z_istore_n (L' := [_, _, _]) (n := 4) dX4_isEmpty_3 rfl (by decide) rfl rfl ?_
  have lp4 : ∀ (N4 : Nat) (e i : Int) , ((12 - i).toNat) < N4 → (0 ≤ i) → (i ≤ 12) → ((e = 1 ∧ ∀ h : Int, 0 ≤ h → h < i → M 43 h = 0) ∨ (e = 0 ∧ exHr M)) → TZ G mX4_isEmpty (tl_rm 0 0 0) 0 0 kAll M J 4 [some (vR 31), some (vI e), some (vI i)] [] F1 M J (ZM G (zPost G kAll F1 M J (qI (fun x M' J' => M' = M ∧ J' = J ∧ ((x = 1 ∧ noHr M) ∨ (x = 0 ∧ exHr M))))) 0 0) := by
    intro N4
    induction N4 with
    | zero => intro e i  hN; omega
    | succ N4 ih4 =>
      intro e i  hN4 i4_0 i4_1 i4_2
      refine Z_iload_n (n := 5) dX4_isEmpty_4 rfl rfl ?_
      refine Z_bipush (n := 7) dX4_isEmpty_5 rfl (by decide) (by decide) ?_
      refine Z_icmp_ge (n := 10) (t := 35) dX4_isEmpty_7 rfl (by decide) (fun c7 => ?_) (fun c7 => ?_)
      · refine Z_iload_n (n := 36) dX4_isEmpty_35 rfl rfl ?_
        have hb : e = 0 ∨ e = 1 := by rcases i4_2 with ⟨q, -⟩ | ⟨q, -⟩ <;> omega
        refine Z_zret dX4_isEmpty_36 rfl (by first | assumption | omega | decide) (by first | assumption | omega | decide) ?_
        refine ⟨rfl, rfl, ?_⟩
        rcases i4_2 with ⟨q1, q2⟩ | ⟨q1, q2⟩
        · exact Or.inl ⟨q1, fun h h0 h1 => q2 h h0 (by omega)⟩
        · exact Or.inr ⟨q1, q2⟩
      · refine Z_iload_n (n := 11) dX4_isEmpty_10 rfl rfl ?_
        refine Z_if_eq (n := 14) (t := 27) dX4_isEmpty_11 rfl (by decide) (fun c11 => ?_) (fun c11 => ?_)
        · have nx : ((0 : Int) = 1 ∧ ∀ h : Int, 0 ≤ h → h < i + 1 → M 43 h = 0) ∨ ((0 : Int) = 0 ∧ exHr M) := by
            refine Or.inr ⟨rfl, ?_⟩
            rcases i4_2 with ⟨q, q2⟩ | ⟨q, q2⟩
            · first | (exfalso; omega) | exact ⟨i, by omega, by omega, by assumption⟩
            · exact q2
          refine Z_iconst (n := 28) dX4_isEmpty_27 rfl (by decide) ?_
          refine Z_istore_n (L' := [_, _, _]) (n := 29) dX4_isEmpty_28 rfl (by decide) rfl rfl ?_
          refine Z_iinc (L' := [_, _, _]) (n := 32) dX4_isEmpty_29 rfl rfl (by decide) rfl rfl (by omega) rfl ?_
          refine Z_goto (t := 4) dX4_isEmpty_32 (by decide) ?_
          refine Z_loc (L' := [some _, some _, some _]) (lsub_same (lsub_same (lsub_same lsub_nil))) ?_
          exact ih4 _ _  (by omega) (by first | assumption | omega | decide) (by first | assumption | omega | decide) (by first | exact Or.inl ⟨rfl, fun h h0 h1 => by omega⟩ | exact nx)
        · refine Z_aload_n (n := 15) dX4_isEmpty_14 rfl rfl ?_
          refine Z_getA (n := 18) dX4_isEmpty_15 rfl ffX4_44 rfl rfl ?_
          refine Z_iload_n (n := 19) dX4_isEmpty_18 rfl rfl ?_
          refine Z_zald (n := 20) dX4_isEmpty_19 rfl rfl rfl (by first | decide | assumption) (by omega) (by omega) (fun r19 s19 => ?_)
          refine Z_if_ne (n := 23) (t := 27) dX4_isEmpty_20 rfl (by decide) (fun c20 => ?_) (fun c20 => ?_)
          · have nx : ((0 : Int) = 1 ∧ ∀ h : Int, 0 ≤ h → h < i + 1 → M 43 h = 0) ∨ ((0 : Int) = 0 ∧ exHr M) := by
              refine Or.inr ⟨rfl, ?_⟩
              rcases i4_2 with ⟨q, q2⟩ | ⟨q, q2⟩
              · first | (exfalso; omega) | exact ⟨i, by omega, by omega, by assumption⟩
              · exact q2
            refine Z_iconst (n := 28) dX4_isEmpty_27 rfl (by decide) ?_
            refine Z_istore_n (L' := [_, _, _]) (n := 29) dX4_isEmpty_28 rfl (by decide) rfl rfl ?_
            refine Z_iinc (L' := [_, _, _]) (n := 32) dX4_isEmpty_29 rfl rfl (by decide) rfl rfl (by omega) rfl ?_
            refine Z_goto (t := 4) dX4_isEmpty_32 (by decide) ?_
            refine Z_loc (L' := [some _, some _, some _]) (lsub_same (lsub_same (lsub_same lsub_nil))) ?_
            exact ih4 _ _  (by omega) (by first | assumption | omega | decide) (by first | assumption | omega | decide) (by first | exact Or.inl ⟨rfl, fun h h0 h1 => by omega⟩ | exact nx)
          · have nx : ((1 : Int) = 1 ∧ ∀ h : Int, 0 ≤ h → h < i + 1 → M 43 h = 0) ∨ ((1 : Int) = 0 ∧ exHr M) := by
              rcases i4_2 with ⟨q, q2⟩ | ⟨q, q2⟩
              · exact Or.inl ⟨rfl, pre_up q2 (by assumption)⟩
              · exfalso; omega
            refine Z_iconst (n := 24) dX4_isEmpty_23 rfl (by decide) ?_
            refine Z_goto (t := 28) dX4_isEmpty_24 (by decide) ?_
            refine Z_istore_n (L' := [_, _, _]) (n := 29) dX4_isEmpty_28 rfl (by decide) rfl rfl ?_
            refine Z_iinc (L' := [_, _, _]) (n := 32) dX4_isEmpty_29 rfl rfl (by decide) rfl rfl (by omega) rfl ?_
            refine Z_goto (t := 4) dX4_isEmpty_32 (by decide) ?_
            refine Z_loc (L' := [some _, some _, some _]) (lsub_same (lsub_same (lsub_same lsub_nil))) ?_
            exact ih4 _ _  (by omega) (by first | assumption | omega | decide) (by first | assumption | omega | decide) (by first | exact Or.inl ⟨rfl, fun h h0 h1 => by omega⟩ | exact nx)
  refine Z_loc (L' := [some _, some _, some _]) (lsub_same (lsub_same (lsub_same lsub_nil))) ?_
  exact lp4 _ _ _  (Nat.lt_succ_self _) (by first | assumption | omega | decide) (by first | assumption | omega | decide) (by first | exact Or.inl ⟨rfl, fun h h0 h1 => by omega⟩ | exact nx)
set_option maxRecDepth 20000 in
theorem zX4_gate {G : tl_G} {M : zM} {J : zJ} {net k u v w : Int}  : ZN G yX4_gate mX4_gate 2 kF [vR 31, vI net, vI k, vI u, vI v, vI w] F1 M J (qI (fun x M' J' => J' = J ∧ (((net < 0 ∨ 3 ≤ net) ∧ x = -1 ∧ M' = M) ∨ (0 ≤ net ∧ net < 3 ∧ (k < 0 ∨ 10 < k) ∧ x = -2 ∧ M' = M) ∨ (0 ≤ net ∧ net < 3 ∧ 0 ≤ k ∧ k ≤ 10 ∧ ¬ ((opF k < 1 ∨ (0 ≤ u ∧ u < M 32 net)) ∧ (opF k < 2 ∨ (0 ≤ v ∧ v < M 32 net)) ∧ (opF k < 3 ∨ (0 ≤ w ∧ w < M 32 net))) ∧ x = -1 ∧ M' = M) ∨ (0 ≤ net ∧ net < 3 ∧ 0 ≤ k ∧ k ≤ 10 ∧ ((opF k < 1 ∨ (0 ≤ u ∧ u < M 32 net)) ∧ (opF k < 2 ∨ (0 ≤ v ∧ v < M 32 net)) ∧ (opF k < 3 ∨ (0 ≤ w ∧ w < M 32 net))) ∧ ((k = 0 ∧ (u < 0 ∨ 8 ≤ u) ∧ x = -2 ∧ M' = M) ∨ ((¬ k = 0 ∨ (0 ≤ u ∧ u < 8)) ∧ ((x = -4 ∧ M' = M ∧ 40 ≤ M 32 net) ∨ (x = M 32 net ∧ M 32 net < 40 ∧ M' = uz (uz (uz (uz (uz M 34 (40 * net + M 32 net) k) 35 (3 * (40 * net + M 32 net)) u) 35 (3 * (40 * net + M 32 net) + 1) v) 35 (3 * (40 * net + M 32 net) + 2) w) 32 net (M 32 net + 1))))))))) := by
  refine ZN_of (L := [_, _, _, _, _, _, _, _]) (by decide) rfl rfl (Nat.le_of_ble_eq_true rfl) rfl (fun hav => ?_)
  refine Z_iload_n (n := 1) dX4_gate_0 rfl rfl ?_
  refine Z_callSi (n := 4) [_] _ dX4_gate_1 rfl cwX4_116 rfl rfl (Nat.le_of_ble_eq_true rfl) (by refine ⟨?_, ?_, ?_, ?_⟩ <;> exact Nat.le_of_ble_eq_true rfl) (fun _ _ => trivial) (zX4_isNet  ) ?_
  intro x1 M1 J1 z1 f1 q1
  obtain ⟨e1_1, e1_2, h1⟩ := q1
  replace e1_1 := e1_1.symm; subst e1_1
  replace e1_2 := e1_2.symm; subst e1_2
  refine Z_if_ne (n := 7) (t := 9) dX4_gate_4 rfl (by decide) (fun c4 => ?_) (fun c4 => ?_)
  · have ct29 : ∀ (q : Int) , (0 ≤ net) → (net < 3) → ((0 ≤ k ∧ k ≤ 10 ∧ q = opF k) ∨ ((k < 0 ∨ 10 < k) ∧ q = 0)) → TZ G mX4_gate (tl_rm 2 0 0) 0 0 kF M J 29 [some (vR 31), some (vI net), some (vI k), some (vI u), some (vI v), some (vI w), some (vI q), none] [] F1 M J (ZM G (zPost G kF F1 M J (qI (fun x M' J' => J' = J ∧ (((net < 0 ∨ 3 ≤ net) ∧ x = -1 ∧ M' = M) ∨ (0 ≤ net ∧ net < 3 ∧ (k < 0 ∨ 10 < k) ∧ x = -2 ∧ M' = M) ∨ (0 ≤ net ∧ net < 3 ∧ 0 ≤ k ∧ k ≤ 10 ∧ ¬ ((opF k < 1 ∨ (0 ≤ u ∧ u < M 32 net)) ∧ (opF k < 2 ∨ (0 ≤ v ∧ v < M 32 net)) ∧ (opF k < 3 ∨ (0 ≤ w ∧ w < M 32 net))) ∧ x = -1 ∧ M' = M) ∨ (0 ≤ net ∧ net < 3 ∧ 0 ≤ k ∧ k ≤ 10 ∧ ((opF k < 1 ∨ (0 ≤ u ∧ u < M 32 net)) ∧ (opF k < 2 ∨ (0 ≤ v ∧ v < M 32 net)) ∧ (opF k < 3 ∨ (0 ≤ w ∧ w < M 32 net))) ∧ ((k = 0 ∧ (u < 0 ∨ 8 ≤ u) ∧ x = -2 ∧ M' = M) ∨ ((¬ k = 0 ∨ (0 ≤ u ∧ u < 8)) ∧ ((x = -4 ∧ M' = M ∧ 40 ≤ M 32 net) ∨ (x = M 32 net ∧ M 32 net < 40 ∧ M' = uz (uz (uz (uz (uz M 34 (40 * net + M 32 net) k) 35 (3 * (40 * net + M 32 net)) u) 35 (3 * (40 * net + M 32 net) + 1) v) 35 (3 * (40 * net + M 32 net) + 2) w) 32 net (M 32 net + 1)))))))))) 0 0) := by
      intro q  i29_0 i29_1 i29_2
      refine Z_iload (n := 31) dX4_gate_29 rfl rfl ?_
      refine Z_if_le (n := 34) (t := 43) dX4_gate_31 rfl (by decide) (fun c31 => ?_) (fun c31 => ?_)
      · refine Z_iload (n := 45) dX4_gate_43 rfl rfl ?_
        refine Z_iconst (n := 46) dX4_gate_45 rfl (by decide) ?_
        refine Z_icmp_le (n := 49) (t := 59) dX4_gate_46 rfl (by decide) (fun c46 => ?_) (fun c46 => ?_)
        · refine Z_iload (n := 61) dX4_gate_59 rfl rfl ?_
          refine Z_iconst (n := 62) dX4_gate_61 rfl (by decide) ?_
          refine Z_icmp_le (n := 65) (t := 77) dX4_gate_62 rfl (by decide) (fun c62 => ?_) (fun c62 => ?_)
          · refine Z_iload_n (n := 78) dX4_gate_77 rfl rfl ?_
            refine Z_iconst (n := 79) dX4_gate_78 rfl (by decide) ?_
            refine Z_bipush (n := 81) dX4_gate_79 rfl (by decide) (by decide) ?_
            refine Z_callSi (n := 84) [_, _, _] _ dX4_gate_81 rfl cwX4_112 rfl rfl (Nat.le_of_ble_eq_true rfl) (by refine ⟨?_, ?_, ?_, ?_⟩ <;> exact Nat.le_of_ble_eq_true rfl) (fun _ _ => trivial) (zX4_in  ) ?_
            intro x81 M81 J81 z81 f81 q81
            obtain ⟨e81_1, e81_2, h81⟩ := q81
            replace e81_1 := e81_1.symm; subst e81_1
            replace e81_2 := e81_2.symm; subst e81_2
            refine Z_if_eq (n := 87) (t := 101) dX4_gate_84 rfl (by decide) (fun c84 => ?_) (fun c84 => ?_)
            · refine Z_bipush (n := 103) dX4_gate_101 rfl (by decide) (by decide) ?_
              refine Z_iret dX4_gate_103 rfl ?_
              first | exact ⟨rfl, Or.inr (Or.inl ⟨by omega, by omega, by omega, rfl, rfl⟩)⟩ | exact ⟨rfl, Or.inr (Or.inr (Or.inr ⟨by omega, by omega, by omega, by omega, by omega, Or.inl ⟨by omega, by omega, rfl, rfl⟩⟩))⟩
            · refine Z_iload_n (n := 88) dX4_gate_87 rfl rfl ?_
              refine Z_if_ne (n := 91) (t := 104) dX4_gate_88 rfl (by decide) (fun c88 => ?_) (fun c88 => ?_)
              · refine Z_aload_n (n := 105) dX4_gate_104 rfl rfl ?_
                refine Z_getA (n := 108) dX4_gate_105 rfl ffX4_7 rfl rfl ?_
                refine Z_iload_n (n := 109) dX4_gate_108 rfl rfl ?_
                refine Z_iald (n := 110) dX4_gate_109 rfl rfl rfl (by first | decide | assumption) (by omega) (by omega) (fun r109 s109 => ?_)
                try simp only [uz_oo (show (32 : Nat) ≠ 34 by decide), uz_oo (show (32 : Nat) ≠ 35 by decide), uz_s] at r109 s109 ⊢
                refine Z_bipush (n := 112) dX4_gate_110 rfl (by decide) (by decide) ?_
                refine Z_icmp_ne (n := 115) (t := 118) dX4_gate_112 rfl (by decide) (fun c112 => ?_) (fun c112 => ?_)
                · refine Z_bipush (n := 120) dX4_gate_118 rfl (by decide) (by decide) ?_
                  refine Z_iload_n (n := 121) dX4_gate_120 rfl rfl ?_
                  refine Z_imul (n := 122) dX4_gate_121 rfl (by omega) ?_
                  refine Z_aload_n (n := 123) dX4_gate_122 rfl rfl ?_
                  refine Z_getA (n := 126) dX4_gate_123 rfl ffX4_7 rfl rfl ?_
                  refine Z_iload_n (n := 127) dX4_gate_126 rfl rfl ?_
                  refine Z_iald (n := 128) dX4_gate_127 rfl rfl rfl (by first | decide | assumption) (by omega) (by omega) (fun r127 s127 => ?_)
                  try simp only [uz_oo (show (32 : Nat) ≠ 34 by decide), uz_oo (show (32 : Nat) ≠ 35 by decide), uz_s] at r127 s127 ⊢
                  refine Z_iadd (n := 129) dX4_gate_128 rfl (by omega) ?_
                  refine Z_istore (L' := [_, _, _, _, _, _, _, _]) (n := 131) dX4_gate_129 rfl (by decide) rfl rfl ?_
                  refine Z_aload_n (n := 132) dX4_gate_131 rfl rfl ?_
                  refine Z_getA (n := 135) dX4_gate_132 rfl ffX4_16 rfl rfl ?_
                  refine Z_iload (n := 137) dX4_gate_135 rfl rfl ?_
                  refine Z_iload_n (n := 138) dX4_gate_137 rfl rfl ?_
                  refine Z_iast (n := 139) dX4_gate_138 rfl rfl rfl (by first | decide | assumption) (by omega) (by omega) (by first | assumption | omega | decide) (by first | assumption | omega | decide) (by exact fun h => h) ?_
                  refine Z_aload_n (n := 140) dX4_gate_139 rfl rfl ?_
                  refine Z_getA (n := 143) dX4_gate_140 rfl ffX4_19 rfl rfl ?_
                  refine Z_iconst (n := 144) dX4_gate_143 rfl (by decide) ?_
                  refine Z_iload (n := 146) dX4_gate_144 rfl rfl ?_
                  refine Z_imul (n := 147) dX4_gate_146 rfl (by omega) ?_
                  refine Z_iload_n (n := 148) dX4_gate_147 rfl rfl ?_
                  refine Z_iast (n := 149) dX4_gate_148 rfl rfl rfl (by first | decide | assumption) (by omega) (by omega) (by first | exact (show zI u from hav (vI u) (by simp)).1 | exact (show zI u from hav (vI u) (by simp)).2) (by first | exact (show zI u from hav (vI u) (by simp)).1 | exact (show zI u from hav (vI u) (by simp)).2) (by exact fun h => h) ?_
                  refine Z_aload_n (n := 150) dX4_gate_149 rfl rfl ?_
                  refine Z_getA (n := 153) dX4_gate_150 rfl ffX4_19 rfl rfl ?_
                  refine Z_iconst (n := 154) dX4_gate_153 rfl (by decide) ?_
                  refine Z_iload (n := 156) dX4_gate_154 rfl rfl ?_
                  refine Z_imul (n := 157) dX4_gate_156 rfl (by omega) ?_
                  refine Z_iconst (n := 158) dX4_gate_157 rfl (by decide) ?_
                  refine Z_iadd (n := 159) dX4_gate_158 rfl (by omega) ?_
                  refine Z_iload (n := 161) dX4_gate_159 rfl rfl ?_
                  refine Z_iast (n := 162) dX4_gate_161 rfl rfl rfl (by first | decide | assumption) (by omega) (by omega) (by first | exact (show zI v from hav (vI v) (by simp)).1 | exact (show zI v from hav (vI v) (by simp)).2) (by first | exact (show zI v from hav (vI v) (by simp)).1 | exact (show zI v from hav (vI v) (by simp)).2) (by exact fun h => h) ?_
                  refine Z_aload_n (n := 163) dX4_gate_162 rfl rfl ?_
                  refine Z_getA (n := 166) dX4_gate_163 rfl ffX4_19 rfl rfl ?_
                  refine Z_iconst (n := 167) dX4_gate_166 rfl (by decide) ?_
                  refine Z_iload (n := 169) dX4_gate_167 rfl rfl ?_
                  refine Z_imul (n := 170) dX4_gate_169 rfl (by omega) ?_
                  refine Z_iconst (n := 171) dX4_gate_170 rfl (by decide) ?_
                  refine Z_iadd (n := 172) dX4_gate_171 rfl (by omega) ?_
                  refine Z_iload (n := 174) dX4_gate_172 rfl rfl ?_
                  refine Z_iast (n := 175) dX4_gate_174 rfl rfl rfl (by first | decide | assumption) (by omega) (by omega) (by first | exact (show zI w from hav (vI w) (by simp)).1 | exact (show zI w from hav (vI w) (by simp)).2) (by first | exact (show zI w from hav (vI w) (by simp)).1 | exact (show zI w from hav (vI w) (by simp)).2) (by exact fun h => h) ?_
                  refine Z_aload_n (n := 176) dX4_gate_175 rfl rfl ?_
                  refine Z_getA (n := 179) dX4_gate_176 rfl ffX4_7 rfl rfl ?_
                  refine Z_iload_n (n := 180) dX4_gate_179 rfl rfl ?_
                  refine Z_dup2 (n := 181) dX4_gate_180 rfl rfl rfl ?_
                  refine Z_iald (n := 182) dX4_gate_181 rfl rfl rfl (by first | decide | assumption) (by omega) (by omega) (fun r181 s181 => ?_)
                  try simp only [uz_oo (show (32 : Nat) ≠ 34 by decide), uz_oo (show (32 : Nat) ≠ 35 by decide), uz_s] at r181 s181 ⊢
                  refine Z_iconst (n := 183) dX4_gate_182 rfl (by decide) ?_
                  refine Z_iadd (n := 184) dX4_gate_183 rfl (by omega) ?_
                  refine Z_iast (n := 185) dX4_gate_184 rfl rfl rfl (by first | decide | assumption) (by omega) (by omega) (by first | assumption | omega | decide) (by first | assumption | omega | decide) (by exact fun h => h) ?_
                  refine Z_aload_n (n := 186) dX4_gate_185 rfl rfl ?_
                  refine Z_getA (n := 189) dX4_gate_186 rfl ffX4_7 rfl rfl ?_
                  refine Z_iload_n (n := 190) dX4_gate_189 rfl rfl ?_
                  refine Z_iald (n := 191) dX4_gate_190 rfl rfl rfl (by first | decide | assumption) (by omega) (by omega) (fun r190 s190 => ?_)
                  try simp only [uz_oo (show (32 : Nat) ≠ 34 by decide), uz_oo (show (32 : Nat) ≠ 35 by decide), uz_s] at r190 s190 ⊢
                  refine Z_iconst (n := 192) dX4_gate_191 rfl (by decide) ?_
                  refine Z_isub (n := 193) dX4_gate_192 rfl (by omega) ?_
                  refine Z_iret dX4_gate_193 rfl ?_
                  exact ⟨rfl, Or.inr (Or.inr (Or.inr ⟨by omega, by omega, by omega, by omega, by omega, Or.inr ⟨by omega, Or.inr ⟨by omega, by omega, rfl⟩⟩⟩))⟩
                · refine Z_bipush (n := 117) dX4_gate_115 rfl (by decide) (by decide) ?_
                  refine Z_iret dX4_gate_117 rfl ?_
                  exact ⟨rfl, Or.inr (Or.inr (Or.inr ⟨by omega, by omega, by omega, by omega, by omega, Or.inr ⟨by omega, Or.inl ⟨rfl, rfl, by omega⟩⟩⟩))⟩
              · refine Z_iload_n (n := 92) dX4_gate_91 rfl rfl ?_
                refine Z_iconst (n := 93) dX4_gate_92 rfl (by decide) ?_
                refine Z_bipush (n := 95) dX4_gate_93 rfl (by decide) (by decide) ?_
                refine Z_callSi (n := 98) [_, _, _] _ dX4_gate_95 rfl cwX4_112 rfl rfl (Nat.le_of_ble_eq_true rfl) (by refine ⟨?_, ?_, ?_, ?_⟩ <;> exact Nat.le_of_ble_eq_true rfl) (fun _ _ => trivial) (zX4_in  ) ?_
                intro x95 M95 J95 z95 f95 q95
                obtain ⟨e95_1, e95_2, h95⟩ := q95
                replace e95_1 := e95_1.symm; subst e95_1
                replace e95_2 := e95_2.symm; subst e95_2
                refine Z_if_ne (n := 101) (t := 104) dX4_gate_98 rfl (by decide) (fun c98 => ?_) (fun c98 => ?_)
                · refine Z_aload_n (n := 105) dX4_gate_104 rfl rfl ?_
                  refine Z_getA (n := 108) dX4_gate_105 rfl ffX4_7 rfl rfl ?_
                  refine Z_iload_n (n := 109) dX4_gate_108 rfl rfl ?_
                  refine Z_iald (n := 110) dX4_gate_109 rfl rfl rfl (by first | decide | assumption) (by omega) (by omega) (fun r109 s109 => ?_)
                  try simp only [uz_oo (show (32 : Nat) ≠ 34 by decide), uz_oo (show (32 : Nat) ≠ 35 by decide), uz_s] at r109 s109 ⊢
                  refine Z_bipush (n := 112) dX4_gate_110 rfl (by decide) (by decide) ?_
                  refine Z_icmp_ne (n := 115) (t := 118) dX4_gate_112 rfl (by decide) (fun c112 => ?_) (fun c112 => ?_)
                  · refine Z_bipush (n := 120) dX4_gate_118 rfl (by decide) (by decide) ?_
                    refine Z_iload_n (n := 121) dX4_gate_120 rfl rfl ?_
                    refine Z_imul (n := 122) dX4_gate_121 rfl (by omega) ?_
                    refine Z_aload_n (n := 123) dX4_gate_122 rfl rfl ?_
                    refine Z_getA (n := 126) dX4_gate_123 rfl ffX4_7 rfl rfl ?_
                    refine Z_iload_n (n := 127) dX4_gate_126 rfl rfl ?_
                    refine Z_iald (n := 128) dX4_gate_127 rfl rfl rfl (by first | decide | assumption) (by omega) (by omega) (fun r127 s127 => ?_)
                    try simp only [uz_oo (show (32 : Nat) ≠ 34 by decide), uz_oo (show (32 : Nat) ≠ 35 by decide), uz_s] at r127 s127 ⊢
                    refine Z_iadd (n := 129) dX4_gate_128 rfl (by omega) ?_
                    refine Z_istore (L' := [_, _, _, _, _, _, _, _]) (n := 131) dX4_gate_129 rfl (by decide) rfl rfl ?_
                    refine Z_aload_n (n := 132) dX4_gate_131 rfl rfl ?_
                    refine Z_getA (n := 135) dX4_gate_132 rfl ffX4_16 rfl rfl ?_
                    refine Z_iload (n := 137) dX4_gate_135 rfl rfl ?_
                    refine Z_iload_n (n := 138) dX4_gate_137 rfl rfl ?_
                    refine Z_iast (n := 139) dX4_gate_138 rfl rfl rfl (by first | decide | assumption) (by omega) (by omega) (by first | assumption | omega | decide) (by first | assumption | omega | decide) (by exact fun h => h) ?_
                    refine Z_aload_n (n := 140) dX4_gate_139 rfl rfl ?_
                    refine Z_getA (n := 143) dX4_gate_140 rfl ffX4_19 rfl rfl ?_
                    refine Z_iconst (n := 144) dX4_gate_143 rfl (by decide) ?_
                    refine Z_iload (n := 146) dX4_gate_144 rfl rfl ?_
                    refine Z_imul (n := 147) dX4_gate_146 rfl (by omega) ?_
                    refine Z_iload_n (n := 148) dX4_gate_147 rfl rfl ?_
                    refine Z_iast (n := 149) dX4_gate_148 rfl rfl rfl (by first | decide | assumption) (by omega) (by omega) (by first | exact (show zI u from hav (vI u) (by simp)).1 | exact (show zI u from hav (vI u) (by simp)).2) (by first | exact (show zI u from hav (vI u) (by simp)).1 | exact (show zI u from hav (vI u) (by simp)).2) (by exact fun h => h) ?_
                    refine Z_aload_n (n := 150) dX4_gate_149 rfl rfl ?_
                    refine Z_getA (n := 153) dX4_gate_150 rfl ffX4_19 rfl rfl ?_
                    refine Z_iconst (n := 154) dX4_gate_153 rfl (by decide) ?_
                    refine Z_iload (n := 156) dX4_gate_154 rfl rfl ?_
                    refine Z_imul (n := 157) dX4_gate_156 rfl (by omega) ?_
                    refine Z_iconst (n := 158) dX4_gate_157 rfl (by decide) ?_
                    refine Z_iadd (n := 159) dX4_gate_158 rfl (by omega) ?_
                    refine Z_iload (n := 161) dX4_gate_159 rfl rfl ?_
                    refine Z_iast (n := 162) dX4_gate_161 rfl rfl rfl (by first | decide | assumption) (by omega) (by omega) (by first | exact (show zI v from hav (vI v) (by simp)).1 | exact (show zI v from hav (vI v) (by simp)).2) (by first | exact (show zI v from hav (vI v) (by simp)).1 | exact (show zI v from hav (vI v) (by simp)).2) (by exact fun h => h) ?_
                    refine Z_aload_n (n := 163) dX4_gate_162 rfl rfl ?_
                    refine Z_getA (n := 166) dX4_gate_163 rfl ffX4_19 rfl rfl ?_
                    refine Z_iconst (n := 167) dX4_gate_166 rfl (by decide) ?_
                    refine Z_iload (n := 169) dX4_gate_167 rfl rfl ?_
                    refine Z_imul (n := 170) dX4_gate_169 rfl (by omega) ?_
                    refine Z_iconst (n := 171) dX4_gate_170 rfl (by decide) ?_
                    refine Z_iadd (n := 172) dX4_gate_171 rfl (by omega) ?_
                    refine Z_iload (n := 174) dX4_gate_172 rfl rfl ?_
                    refine Z_iast (n := 175) dX4_gate_174 rfl rfl rfl (by first | decide | assumption) (by omega) (by omega) (by first | exact (show zI w from hav (vI w) (by simp)).1 | exact (show zI w from hav (vI w) (by simp)).2) (by first | exact (show zI w from hav (vI w) (by simp)).1 | exact (show zI w from hav (vI w) (by simp)).2) (by exact fun h => h) ?_
                    refine Z_aload_n (n := 176) dX4_gate_175 rfl rfl ?_
                    refine Z_getA (n := 179) dX4_gate_176 rfl ffX4_7 rfl rfl ?_
                    refine Z_iload_n (n := 180) dX4_gate_179 rfl rfl ?_
                    refine Z_dup2 (n := 181) dX4_gate_180 rfl rfl rfl ?_
                    refine Z_iald (n := 182) dX4_gate_181 rfl rfl rfl (by first | decide | assumption) (by omega) (by omega) (fun r181 s181 => ?_)
                    try simp only [uz_oo (show (32 : Nat) ≠ 34 by decide), uz_oo (show (32 : Nat) ≠ 35 by decide), uz_s] at r181 s181 ⊢
                    refine Z_iconst (n := 183) dX4_gate_182 rfl (by decide) ?_
                    refine Z_iadd (n := 184) dX4_gate_183 rfl (by omega) ?_
                    refine Z_iast (n := 185) dX4_gate_184 rfl rfl rfl (by first | decide | assumption) (by omega) (by omega) (by first | assumption | omega | decide) (by first | assumption | omega | decide) (by exact fun h => h) ?_
                    refine Z_aload_n (n := 186) dX4_gate_185 rfl rfl ?_
                    refine Z_getA (n := 189) dX4_gate_186 rfl ffX4_7 rfl rfl ?_
                    refine Z_iload_n (n := 190) dX4_gate_189 rfl rfl ?_
                    refine Z_iald (n := 191) dX4_gate_190 rfl rfl rfl (by first | decide | assumption) (by omega) (by omega) (fun r190 s190 => ?_)
                    try simp only [uz_oo (show (32 : Nat) ≠ 34 by decide), uz_oo (show (32 : Nat) ≠ 35 by decide), uz_s] at r190 s190 ⊢
                    refine Z_iconst (n := 192) dX4_gate_191 rfl (by decide) ?_
                    refine Z_isub (n := 193) dX4_gate_192 rfl (by omega) ?_
                    refine Z_iret dX4_gate_193 rfl ?_
                    exact ⟨rfl, Or.inr (Or.inr (Or.inr ⟨by omega, by omega, by omega, by omega, by omega, Or.inr ⟨by omega, Or.inr ⟨by omega, by omega, rfl⟩⟩⟩))⟩
                  · refine Z_bipush (n := 117) dX4_gate_115 rfl (by decide) (by decide) ?_
                    refine Z_iret dX4_gate_117 rfl ?_
                    exact ⟨rfl, Or.inr (Or.inr (Or.inr ⟨by omega, by omega, by omega, by omega, by omega, Or.inr ⟨by omega, Or.inl ⟨rfl, rfl, by omega⟩⟩⟩))⟩
                · refine Z_bipush (n := 103) dX4_gate_101 rfl (by decide) (by decide) ?_
                  refine Z_iret dX4_gate_103 rfl ?_
                  first | exact ⟨rfl, Or.inr (Or.inl ⟨by omega, by omega, by omega, rfl, rfl⟩)⟩ | exact ⟨rfl, Or.inr (Or.inr (Or.inr ⟨by omega, by omega, by omega, by omega, by omega, Or.inl ⟨by omega, by omega, rfl, rfl⟩⟩))⟩
          · refine Z_aload_n (n := 66) dX4_gate_65 rfl rfl ?_
            refine Z_iload_n (n := 67) dX4_gate_66 rfl rfl ?_
            refine Z_iload (n := 69) dX4_gate_67 rfl rfl ?_
            refine Z_callVi (n := 72) [_, _] _ dX4_gate_69 rfl cwX4_124 rfl rfl rfl (Nat.le_of_ble_eq_true rfl) (by refine ⟨?_, ?_, ?_, ?_⟩ <;> exact Nat.le_of_ble_eq_true rfl) (fun _ _ => trivial) (zX4_isGate  (by first | assumption | omega | decide) (by first | assumption | omega | decide)) ?_
            intro x69 M69 J69 z69 f69 q69
            obtain ⟨e69_1, e69_2, h69⟩ := q69
            replace e69_1 := e69_1.symm; subst e69_1
            replace e69_2 := e69_2.symm; subst e69_2
            refine Z_if_ne (n := 75) (t := 77) dX4_gate_72 rfl (by decide) (fun c72 => ?_) (fun c72 => ?_)
            · refine Z_iload_n (n := 78) dX4_gate_77 rfl rfl ?_
              refine Z_iconst (n := 79) dX4_gate_78 rfl (by decide) ?_
              refine Z_bipush (n := 81) dX4_gate_79 rfl (by decide) (by decide) ?_
              refine Z_callSi (n := 84) [_, _, _] _ dX4_gate_81 rfl cwX4_112 rfl rfl (Nat.le_of_ble_eq_true rfl) (by refine ⟨?_, ?_, ?_, ?_⟩ <;> exact Nat.le_of_ble_eq_true rfl) (fun _ _ => trivial) (zX4_in  ) ?_
              intro x81 M81 J81 z81 f81 q81
              obtain ⟨e81_1, e81_2, h81⟩ := q81
              replace e81_1 := e81_1.symm; subst e81_1
              replace e81_2 := e81_2.symm; subst e81_2
              refine Z_if_eq (n := 87) (t := 101) dX4_gate_84 rfl (by decide) (fun c84 => ?_) (fun c84 => ?_)
              · refine Z_bipush (n := 103) dX4_gate_101 rfl (by decide) (by decide) ?_
                refine Z_iret dX4_gate_103 rfl ?_
                first | exact ⟨rfl, Or.inr (Or.inl ⟨by omega, by omega, by omega, rfl, rfl⟩)⟩ | exact ⟨rfl, Or.inr (Or.inr (Or.inr ⟨by omega, by omega, by omega, by omega, by omega, Or.inl ⟨by omega, by omega, rfl, rfl⟩⟩))⟩
              · refine Z_iload_n (n := 88) dX4_gate_87 rfl rfl ?_
                refine Z_if_ne (n := 91) (t := 104) dX4_gate_88 rfl (by decide) (fun c88 => ?_) (fun c88 => ?_)
                · refine Z_aload_n (n := 105) dX4_gate_104 rfl rfl ?_
                  refine Z_getA (n := 108) dX4_gate_105 rfl ffX4_7 rfl rfl ?_
                  refine Z_iload_n (n := 109) dX4_gate_108 rfl rfl ?_
                  refine Z_iald (n := 110) dX4_gate_109 rfl rfl rfl (by first | decide | assumption) (by omega) (by omega) (fun r109 s109 => ?_)
                  try simp only [uz_oo (show (32 : Nat) ≠ 34 by decide), uz_oo (show (32 : Nat) ≠ 35 by decide), uz_s] at r109 s109 ⊢
                  refine Z_bipush (n := 112) dX4_gate_110 rfl (by decide) (by decide) ?_
                  refine Z_icmp_ne (n := 115) (t := 118) dX4_gate_112 rfl (by decide) (fun c112 => ?_) (fun c112 => ?_)
                  · refine Z_bipush (n := 120) dX4_gate_118 rfl (by decide) (by decide) ?_
                    refine Z_iload_n (n := 121) dX4_gate_120 rfl rfl ?_
                    refine Z_imul (n := 122) dX4_gate_121 rfl (by omega) ?_
                    refine Z_aload_n (n := 123) dX4_gate_122 rfl rfl ?_
                    refine Z_getA (n := 126) dX4_gate_123 rfl ffX4_7 rfl rfl ?_
                    refine Z_iload_n (n := 127) dX4_gate_126 rfl rfl ?_
                    refine Z_iald (n := 128) dX4_gate_127 rfl rfl rfl (by first | decide | assumption) (by omega) (by omega) (fun r127 s127 => ?_)
                    try simp only [uz_oo (show (32 : Nat) ≠ 34 by decide), uz_oo (show (32 : Nat) ≠ 35 by decide), uz_s] at r127 s127 ⊢
                    refine Z_iadd (n := 129) dX4_gate_128 rfl (by omega) ?_
                    refine Z_istore (L' := [_, _, _, _, _, _, _, _]) (n := 131) dX4_gate_129 rfl (by decide) rfl rfl ?_
                    refine Z_aload_n (n := 132) dX4_gate_131 rfl rfl ?_
                    refine Z_getA (n := 135) dX4_gate_132 rfl ffX4_16 rfl rfl ?_
                    refine Z_iload (n := 137) dX4_gate_135 rfl rfl ?_
                    refine Z_iload_n (n := 138) dX4_gate_137 rfl rfl ?_
                    refine Z_iast (n := 139) dX4_gate_138 rfl rfl rfl (by first | decide | assumption) (by omega) (by omega) (by first | assumption | omega | decide) (by first | assumption | omega | decide) (by exact fun h => h) ?_
                    refine Z_aload_n (n := 140) dX4_gate_139 rfl rfl ?_
                    refine Z_getA (n := 143) dX4_gate_140 rfl ffX4_19 rfl rfl ?_
                    refine Z_iconst (n := 144) dX4_gate_143 rfl (by decide) ?_
                    refine Z_iload (n := 146) dX4_gate_144 rfl rfl ?_
                    refine Z_imul (n := 147) dX4_gate_146 rfl (by omega) ?_
                    refine Z_iload_n (n := 148) dX4_gate_147 rfl rfl ?_
                    refine Z_iast (n := 149) dX4_gate_148 rfl rfl rfl (by first | decide | assumption) (by omega) (by omega) (by first | exact (show zI u from hav (vI u) (by simp)).1 | exact (show zI u from hav (vI u) (by simp)).2) (by first | exact (show zI u from hav (vI u) (by simp)).1 | exact (show zI u from hav (vI u) (by simp)).2) (by exact fun h => h) ?_
                    refine Z_aload_n (n := 150) dX4_gate_149 rfl rfl ?_
                    refine Z_getA (n := 153) dX4_gate_150 rfl ffX4_19 rfl rfl ?_
                    refine Z_iconst (n := 154) dX4_gate_153 rfl (by decide) ?_
                    refine Z_iload (n := 156) dX4_gate_154 rfl rfl ?_
                    refine Z_imul (n := 157) dX4_gate_156 rfl (by omega) ?_
                    refine Z_iconst (n := 158) dX4_gate_157 rfl (by decide) ?_
                    refine Z_iadd (n := 159) dX4_gate_158 rfl (by omega) ?_
                    refine Z_iload (n := 161) dX4_gate_159 rfl rfl ?_
                    refine Z_iast (n := 162) dX4_gate_161 rfl rfl rfl (by first | decide | assumption) (by omega) (by omega) (by first | exact (show zI v from hav (vI v) (by simp)).1 | exact (show zI v from hav (vI v) (by simp)).2) (by first | exact (show zI v from hav (vI v) (by simp)).1 | exact (show zI v from hav (vI v) (by simp)).2) (by exact fun h => h) ?_
                    refine Z_aload_n (n := 163) dX4_gate_162 rfl rfl ?_
                    refine Z_getA (n := 166) dX4_gate_163 rfl ffX4_19 rfl rfl ?_
                    refine Z_iconst (n := 167) dX4_gate_166 rfl (by decide) ?_
                    refine Z_iload (n := 169) dX4_gate_167 rfl rfl ?_
                    refine Z_imul (n := 170) dX4_gate_169 rfl (by omega) ?_
                    refine Z_iconst (n := 171) dX4_gate_170 rfl (by decide) ?_
                    refine Z_iadd (n := 172) dX4_gate_171 rfl (by omega) ?_
                    refine Z_iload (n := 174) dX4_gate_172 rfl rfl ?_
                    refine Z_iast (n := 175) dX4_gate_174 rfl rfl rfl (by first | decide | assumption) (by omega) (by omega) (by first | exact (show zI w from hav (vI w) (by simp)).1 | exact (show zI w from hav (vI w) (by simp)).2) (by first | exact (show zI w from hav (vI w) (by simp)).1 | exact (show zI w from hav (vI w) (by simp)).2) (by exact fun h => h) ?_
                    refine Z_aload_n (n := 176) dX4_gate_175 rfl rfl ?_
                    refine Z_getA (n := 179) dX4_gate_176 rfl ffX4_7 rfl rfl ?_
                    refine Z_iload_n (n := 180) dX4_gate_179 rfl rfl ?_
                    refine Z_dup2 (n := 181) dX4_gate_180 rfl rfl rfl ?_
                    refine Z_iald (n := 182) dX4_gate_181 rfl rfl rfl (by first | decide | assumption) (by omega) (by omega) (fun r181 s181 => ?_)
                    try simp only [uz_oo (show (32 : Nat) ≠ 34 by decide), uz_oo (show (32 : Nat) ≠ 35 by decide), uz_s] at r181 s181 ⊢
                    refine Z_iconst (n := 183) dX4_gate_182 rfl (by decide) ?_
                    refine Z_iadd (n := 184) dX4_gate_183 rfl (by omega) ?_
                    refine Z_iast (n := 185) dX4_gate_184 rfl rfl rfl (by first | decide | assumption) (by omega) (by omega) (by first | assumption | omega | decide) (by first | assumption | omega | decide) (by exact fun h => h) ?_
                    refine Z_aload_n (n := 186) dX4_gate_185 rfl rfl ?_
                    refine Z_getA (n := 189) dX4_gate_186 rfl ffX4_7 rfl rfl ?_
                    refine Z_iload_n (n := 190) dX4_gate_189 rfl rfl ?_
                    refine Z_iald (n := 191) dX4_gate_190 rfl rfl rfl (by first | decide | assumption) (by omega) (by omega) (fun r190 s190 => ?_)
                    try simp only [uz_oo (show (32 : Nat) ≠ 34 by decide), uz_oo (show (32 : Nat) ≠ 35 by decide), uz_s] at r190 s190 ⊢
                    refine Z_iconst (n := 192) dX4_gate_191 rfl (by decide) ?_
                    refine Z_isub (n := 193) dX4_gate_192 rfl (by omega) ?_
                    refine Z_iret dX4_gate_193 rfl ?_
                    exact ⟨rfl, Or.inr (Or.inr (Or.inr ⟨by omega, by omega, by omega, by omega, by omega, Or.inr ⟨by omega, Or.inr ⟨by omega, by omega, rfl⟩⟩⟩))⟩
                  · refine Z_bipush (n := 117) dX4_gate_115 rfl (by decide) (by decide) ?_
                    refine Z_iret dX4_gate_117 rfl ?_
                    exact ⟨rfl, Or.inr (Or.inr (Or.inr ⟨by omega, by omega, by omega, by omega, by omega, Or.inr ⟨by omega, Or.inl ⟨rfl, rfl, by omega⟩⟩⟩))⟩
                · refine Z_iload_n (n := 92) dX4_gate_91 rfl rfl ?_
                  refine Z_iconst (n := 93) dX4_gate_92 rfl (by decide) ?_
                  refine Z_bipush (n := 95) dX4_gate_93 rfl (by decide) (by decide) ?_
                  refine Z_callSi (n := 98) [_, _, _] _ dX4_gate_95 rfl cwX4_112 rfl rfl (Nat.le_of_ble_eq_true rfl) (by refine ⟨?_, ?_, ?_, ?_⟩ <;> exact Nat.le_of_ble_eq_true rfl) (fun _ _ => trivial) (zX4_in  ) ?_
                  intro x95 M95 J95 z95 f95 q95
                  obtain ⟨e95_1, e95_2, h95⟩ := q95
                  replace e95_1 := e95_1.symm; subst e95_1
                  replace e95_2 := e95_2.symm; subst e95_2
                  refine Z_if_ne (n := 101) (t := 104) dX4_gate_98 rfl (by decide) (fun c98 => ?_) (fun c98 => ?_)
                  · refine Z_aload_n (n := 105) dX4_gate_104 rfl rfl ?_
                    refine Z_getA (n := 108) dX4_gate_105 rfl ffX4_7 rfl rfl ?_
                    refine Z_iload_n (n := 109) dX4_gate_108 rfl rfl ?_
                    refine Z_iald (n := 110) dX4_gate_109 rfl rfl rfl (by first | decide | assumption) (by omega) (by omega) (fun r109 s109 => ?_)
                    try simp only [uz_oo (show (32 : Nat) ≠ 34 by decide), uz_oo (show (32 : Nat) ≠ 35 by decide), uz_s] at r109 s109 ⊢
                    refine Z_bipush (n := 112) dX4_gate_110 rfl (by decide) (by decide) ?_
                    refine Z_icmp_ne (n := 115) (t := 118) dX4_gate_112 rfl (by decide) (fun c112 => ?_) (fun c112 => ?_)
                    · refine Z_bipush (n := 120) dX4_gate_118 rfl (by decide) (by decide) ?_
                      refine Z_iload_n (n := 121) dX4_gate_120 rfl rfl ?_
                      refine Z_imul (n := 122) dX4_gate_121 rfl (by omega) ?_
                      refine Z_aload_n (n := 123) dX4_gate_122 rfl rfl ?_
                      refine Z_getA (n := 126) dX4_gate_123 rfl ffX4_7 rfl rfl ?_
                      refine Z_iload_n (n := 127) dX4_gate_126 rfl rfl ?_
                      refine Z_iald (n := 128) dX4_gate_127 rfl rfl rfl (by first | decide | assumption) (by omega) (by omega) (fun r127 s127 => ?_)
                      try simp only [uz_oo (show (32 : Nat) ≠ 34 by decide), uz_oo (show (32 : Nat) ≠ 35 by decide), uz_s] at r127 s127 ⊢
                      refine Z_iadd (n := 129) dX4_gate_128 rfl (by omega) ?_
                      refine Z_istore (L' := [_, _, _, _, _, _, _, _]) (n := 131) dX4_gate_129 rfl (by decide) rfl rfl ?_
                      refine Z_aload_n (n := 132) dX4_gate_131 rfl rfl ?_
                      refine Z_getA (n := 135) dX4_gate_132 rfl ffX4_16 rfl rfl ?_
                      refine Z_iload (n := 137) dX4_gate_135 rfl rfl ?_
                      refine Z_iload_n (n := 138) dX4_gate_137 rfl rfl ?_
                      refine Z_iast (n := 139) dX4_gate_138 rfl rfl rfl (by first | decide | assumption) (by omega) (by omega) (by first | assumption | omega | decide) (by first | assumption | omega | decide) (by exact fun h => h) ?_
                      refine Z_aload_n (n := 140) dX4_gate_139 rfl rfl ?_
                      refine Z_getA (n := 143) dX4_gate_140 rfl ffX4_19 rfl rfl ?_
                      refine Z_iconst (n := 144) dX4_gate_143 rfl (by decide) ?_
                      refine Z_iload (n := 146) dX4_gate_144 rfl rfl ?_
                      refine Z_imul (n := 147) dX4_gate_146 rfl (by omega) ?_
                      refine Z_iload_n (n := 148) dX4_gate_147 rfl rfl ?_
                      refine Z_iast (n := 149) dX4_gate_148 rfl rfl rfl (by first | decide | assumption) (by omega) (by omega) (by first | exact (show zI u from hav (vI u) (by simp)).1 | exact (show zI u from hav (vI u) (by simp)).2) (by first | exact (show zI u from hav (vI u) (by simp)).1 | exact (show zI u from hav (vI u) (by simp)).2) (by exact fun h => h) ?_
                      refine Z_aload_n (n := 150) dX4_gate_149 rfl rfl ?_
                      refine Z_getA (n := 153) dX4_gate_150 rfl ffX4_19 rfl rfl ?_
                      refine Z_iconst (n := 154) dX4_gate_153 rfl (by decide) ?_
                      refine Z_iload (n := 156) dX4_gate_154 rfl rfl ?_
                      refine Z_imul (n := 157) dX4_gate_156 rfl (by omega) ?_
                      refine Z_iconst (n := 158) dX4_gate_157 rfl (by decide) ?_
                      refine Z_iadd (n := 159) dX4_gate_158 rfl (by omega) ?_
                      refine Z_iload (n := 161) dX4_gate_159 rfl rfl ?_
                      refine Z_iast (n := 162) dX4_gate_161 rfl rfl rfl (by first | decide | assumption) (by omega) (by omega) (by first | exact (show zI v from hav (vI v) (by simp)).1 | exact (show zI v from hav (vI v) (by simp)).2) (by first | exact (show zI v from hav (vI v) (by simp)).1 | exact (show zI v from hav (vI v) (by simp)).2) (by exact fun h => h) ?_
                      refine Z_aload_n (n := 163) dX4_gate_162 rfl rfl ?_
                      refine Z_getA (n := 166) dX4_gate_163 rfl ffX4_19 rfl rfl ?_
                      refine Z_iconst (n := 167) dX4_gate_166 rfl (by decide) ?_
                      refine Z_iload (n := 169) dX4_gate_167 rfl rfl ?_
                      refine Z_imul (n := 170) dX4_gate_169 rfl (by omega) ?_
                      refine Z_iconst (n := 171) dX4_gate_170 rfl (by decide) ?_
                      refine Z_iadd (n := 172) dX4_gate_171 rfl (by omega) ?_
                      refine Z_iload (n := 174) dX4_gate_172 rfl rfl ?_
                      refine Z_iast (n := 175) dX4_gate_174 rfl rfl rfl (by first | decide | assumption) (by omega) (by omega) (by first | exact (show zI w from hav (vI w) (by simp)).1 | exact (show zI w from hav (vI w) (by simp)).2) (by first | exact (show zI w from hav (vI w) (by simp)).1 | exact (show zI w from hav (vI w) (by simp)).2) (by exact fun h => h) ?_
                      refine Z_aload_n (n := 176) dX4_gate_175 rfl rfl ?_
                      refine Z_getA (n := 179) dX4_gate_176 rfl ffX4_7 rfl rfl ?_
                      refine Z_iload_n (n := 180) dX4_gate_179 rfl rfl ?_
                      refine Z_dup2 (n := 181) dX4_gate_180 rfl rfl rfl ?_
                      refine Z_iald (n := 182) dX4_gate_181 rfl rfl rfl (by first | decide | assumption) (by omega) (by omega) (fun r181 s181 => ?_)
                      try simp only [uz_oo (show (32 : Nat) ≠ 34 by decide), uz_oo (show (32 : Nat) ≠ 35 by decide), uz_s] at r181 s181 ⊢
                      refine Z_iconst (n := 183) dX4_gate_182 rfl (by decide) ?_
                      refine Z_iadd (n := 184) dX4_gate_183 rfl (by omega) ?_
                      refine Z_iast (n := 185) dX4_gate_184 rfl rfl rfl (by first | decide | assumption) (by omega) (by omega) (by first | assumption | omega | decide) (by first | assumption | omega | decide) (by exact fun h => h) ?_
                      refine Z_aload_n (n := 186) dX4_gate_185 rfl rfl ?_
                      refine Z_getA (n := 189) dX4_gate_186 rfl ffX4_7 rfl rfl ?_
                      refine Z_iload_n (n := 190) dX4_gate_189 rfl rfl ?_
                      refine Z_iald (n := 191) dX4_gate_190 rfl rfl rfl (by first | decide | assumption) (by omega) (by omega) (fun r190 s190 => ?_)
                      try simp only [uz_oo (show (32 : Nat) ≠ 34 by decide), uz_oo (show (32 : Nat) ≠ 35 by decide), uz_s] at r190 s190 ⊢
                      refine Z_iconst (n := 192) dX4_gate_191 rfl (by decide) ?_
                      refine Z_isub (n := 193) dX4_gate_192 rfl (by omega) ?_
                      refine Z_iret dX4_gate_193 rfl ?_
                      exact ⟨rfl, Or.inr (Or.inr (Or.inr ⟨by omega, by omega, by omega, by omega, by omega, Or.inr ⟨by omega, Or.inr ⟨by omega, by omega, rfl⟩⟩⟩))⟩
                    · refine Z_bipush (n := 117) dX4_gate_115 rfl (by decide) (by decide) ?_
                      refine Z_iret dX4_gate_117 rfl ?_
                      exact ⟨rfl, Or.inr (Or.inr (Or.inr ⟨by omega, by omega, by omega, by omega, by omega, Or.inr ⟨by omega, Or.inl ⟨rfl, rfl, by omega⟩⟩⟩))⟩
                  · refine Z_bipush (n := 103) dX4_gate_101 rfl (by decide) (by decide) ?_
                    refine Z_iret dX4_gate_103 rfl ?_
                    first | exact ⟨rfl, Or.inr (Or.inl ⟨by omega, by omega, by omega, rfl, rfl⟩)⟩ | exact ⟨rfl, Or.inr (Or.inr (Or.inr ⟨by omega, by omega, by omega, by omega, by omega, Or.inl ⟨by omega, by omega, rfl, rfl⟩⟩))⟩
            · refine Z_iconst (n := 76) dX4_gate_75 rfl (by decide) ?_
              refine Z_iret dX4_gate_76 rfl ?_
              exact ⟨rfl, Or.inr (Or.inr (Or.inl ⟨by omega, by omega, by omega, by omega, by omega, rfl, rfl⟩))⟩
        · refine Z_aload_n (n := 50) dX4_gate_49 rfl rfl ?_
          refine Z_iload_n (n := 51) dX4_gate_50 rfl rfl ?_
          refine Z_iload (n := 53) dX4_gate_51 rfl rfl ?_
          refine Z_callVi (n := 56) [_, _] _ dX4_gate_53 rfl cwX4_124 rfl rfl rfl (Nat.le_of_ble_eq_true rfl) (by refine ⟨?_, ?_, ?_, ?_⟩ <;> exact Nat.le_of_ble_eq_true rfl) (fun _ _ => trivial) (zX4_isGate  (by first | assumption | omega | decide) (by first | assumption | omega | decide)) ?_
          intro x53 M53 J53 z53 f53 q53
          obtain ⟨e53_1, e53_2, h53⟩ := q53
          replace e53_1 := e53_1.symm; subst e53_1
          replace e53_2 := e53_2.symm; subst e53_2
          refine Z_if_eq (n := 59) (t := 75) dX4_gate_56 rfl (by decide) (fun c56 => ?_) (fun c56 => ?_)
          · refine Z_iconst (n := 76) dX4_gate_75 rfl (by decide) ?_
            refine Z_iret dX4_gate_76 rfl ?_
            exact ⟨rfl, Or.inr (Or.inr (Or.inl ⟨by omega, by omega, by omega, by omega, by omega, rfl, rfl⟩))⟩
          · refine Z_iload (n := 61) dX4_gate_59 rfl rfl ?_
            refine Z_iconst (n := 62) dX4_gate_61 rfl (by decide) ?_
            refine Z_icmp_le (n := 65) (t := 77) dX4_gate_62 rfl (by decide) (fun c62 => ?_) (fun c62 => ?_)
            · refine Z_iload_n (n := 78) dX4_gate_77 rfl rfl ?_
              refine Z_iconst (n := 79) dX4_gate_78 rfl (by decide) ?_
              refine Z_bipush (n := 81) dX4_gate_79 rfl (by decide) (by decide) ?_
              refine Z_callSi (n := 84) [_, _, _] _ dX4_gate_81 rfl cwX4_112 rfl rfl (Nat.le_of_ble_eq_true rfl) (by refine ⟨?_, ?_, ?_, ?_⟩ <;> exact Nat.le_of_ble_eq_true rfl) (fun _ _ => trivial) (zX4_in  ) ?_
              intro x81 M81 J81 z81 f81 q81
              obtain ⟨e81_1, e81_2, h81⟩ := q81
              replace e81_1 := e81_1.symm; subst e81_1
              replace e81_2 := e81_2.symm; subst e81_2
              refine Z_if_eq (n := 87) (t := 101) dX4_gate_84 rfl (by decide) (fun c84 => ?_) (fun c84 => ?_)
              · refine Z_bipush (n := 103) dX4_gate_101 rfl (by decide) (by decide) ?_
                refine Z_iret dX4_gate_103 rfl ?_
                first | exact ⟨rfl, Or.inr (Or.inl ⟨by omega, by omega, by omega, rfl, rfl⟩)⟩ | exact ⟨rfl, Or.inr (Or.inr (Or.inr ⟨by omega, by omega, by omega, by omega, by omega, Or.inl ⟨by omega, by omega, rfl, rfl⟩⟩))⟩
              · refine Z_iload_n (n := 88) dX4_gate_87 rfl rfl ?_
                refine Z_if_ne (n := 91) (t := 104) dX4_gate_88 rfl (by decide) (fun c88 => ?_) (fun c88 => ?_)
                · refine Z_aload_n (n := 105) dX4_gate_104 rfl rfl ?_
                  refine Z_getA (n := 108) dX4_gate_105 rfl ffX4_7 rfl rfl ?_
                  refine Z_iload_n (n := 109) dX4_gate_108 rfl rfl ?_
                  refine Z_iald (n := 110) dX4_gate_109 rfl rfl rfl (by first | decide | assumption) (by omega) (by omega) (fun r109 s109 => ?_)
                  try simp only [uz_oo (show (32 : Nat) ≠ 34 by decide), uz_oo (show (32 : Nat) ≠ 35 by decide), uz_s] at r109 s109 ⊢
                  refine Z_bipush (n := 112) dX4_gate_110 rfl (by decide) (by decide) ?_
                  refine Z_icmp_ne (n := 115) (t := 118) dX4_gate_112 rfl (by decide) (fun c112 => ?_) (fun c112 => ?_)
                  · refine Z_bipush (n := 120) dX4_gate_118 rfl (by decide) (by decide) ?_
                    refine Z_iload_n (n := 121) dX4_gate_120 rfl rfl ?_
                    refine Z_imul (n := 122) dX4_gate_121 rfl (by omega) ?_
                    refine Z_aload_n (n := 123) dX4_gate_122 rfl rfl ?_
                    refine Z_getA (n := 126) dX4_gate_123 rfl ffX4_7 rfl rfl ?_
                    refine Z_iload_n (n := 127) dX4_gate_126 rfl rfl ?_
                    refine Z_iald (n := 128) dX4_gate_127 rfl rfl rfl (by first | decide | assumption) (by omega) (by omega) (fun r127 s127 => ?_)
                    try simp only [uz_oo (show (32 : Nat) ≠ 34 by decide), uz_oo (show (32 : Nat) ≠ 35 by decide), uz_s] at r127 s127 ⊢
                    refine Z_iadd (n := 129) dX4_gate_128 rfl (by omega) ?_
                    refine Z_istore (L' := [_, _, _, _, _, _, _, _]) (n := 131) dX4_gate_129 rfl (by decide) rfl rfl ?_
                    refine Z_aload_n (n := 132) dX4_gate_131 rfl rfl ?_
                    refine Z_getA (n := 135) dX4_gate_132 rfl ffX4_16 rfl rfl ?_
                    refine Z_iload (n := 137) dX4_gate_135 rfl rfl ?_
                    refine Z_iload_n (n := 138) dX4_gate_137 rfl rfl ?_
                    refine Z_iast (n := 139) dX4_gate_138 rfl rfl rfl (by first | decide | assumption) (by omega) (by omega) (by first | assumption | omega | decide) (by first | assumption | omega | decide) (by exact fun h => h) ?_
                    refine Z_aload_n (n := 140) dX4_gate_139 rfl rfl ?_
                    refine Z_getA (n := 143) dX4_gate_140 rfl ffX4_19 rfl rfl ?_
                    refine Z_iconst (n := 144) dX4_gate_143 rfl (by decide) ?_
                    refine Z_iload (n := 146) dX4_gate_144 rfl rfl ?_
                    refine Z_imul (n := 147) dX4_gate_146 rfl (by omega) ?_
                    refine Z_iload_n (n := 148) dX4_gate_147 rfl rfl ?_
                    refine Z_iast (n := 149) dX4_gate_148 rfl rfl rfl (by first | decide | assumption) (by omega) (by omega) (by first | exact (show zI u from hav (vI u) (by simp)).1 | exact (show zI u from hav (vI u) (by simp)).2) (by first | exact (show zI u from hav (vI u) (by simp)).1 | exact (show zI u from hav (vI u) (by simp)).2) (by exact fun h => h) ?_
                    refine Z_aload_n (n := 150) dX4_gate_149 rfl rfl ?_
                    refine Z_getA (n := 153) dX4_gate_150 rfl ffX4_19 rfl rfl ?_
                    refine Z_iconst (n := 154) dX4_gate_153 rfl (by decide) ?_
                    refine Z_iload (n := 156) dX4_gate_154 rfl rfl ?_
                    refine Z_imul (n := 157) dX4_gate_156 rfl (by omega) ?_
                    refine Z_iconst (n := 158) dX4_gate_157 rfl (by decide) ?_
                    refine Z_iadd (n := 159) dX4_gate_158 rfl (by omega) ?_
                    refine Z_iload (n := 161) dX4_gate_159 rfl rfl ?_
                    refine Z_iast (n := 162) dX4_gate_161 rfl rfl rfl (by first | decide | assumption) (by omega) (by omega) (by first | exact (show zI v from hav (vI v) (by simp)).1 | exact (show zI v from hav (vI v) (by simp)).2) (by first | exact (show zI v from hav (vI v) (by simp)).1 | exact (show zI v from hav (vI v) (by simp)).2) (by exact fun h => h) ?_
                    refine Z_aload_n (n := 163) dX4_gate_162 rfl rfl ?_
                    refine Z_getA (n := 166) dX4_gate_163 rfl ffX4_19 rfl rfl ?_
                    refine Z_iconst (n := 167) dX4_gate_166 rfl (by decide) ?_
                    refine Z_iload (n := 169) dX4_gate_167 rfl rfl ?_
                    refine Z_imul (n := 170) dX4_gate_169 rfl (by omega) ?_
                    refine Z_iconst (n := 171) dX4_gate_170 rfl (by decide) ?_
                    refine Z_iadd (n := 172) dX4_gate_171 rfl (by omega) ?_
                    refine Z_iload (n := 174) dX4_gate_172 rfl rfl ?_
                    refine Z_iast (n := 175) dX4_gate_174 rfl rfl rfl (by first | decide | assumption) (by omega) (by omega) (by first | exact (show zI w from hav (vI w) (by simp)).1 | exact (show zI w from hav (vI w) (by simp)).2) (by first | exact (show zI w from hav (vI w) (by simp)).1 | exact (show zI w from hav (vI w) (by simp)).2) (by exact fun h => h) ?_
                    refine Z_aload_n (n := 176) dX4_gate_175 rfl rfl ?_
                    refine Z_getA (n := 179) dX4_gate_176 rfl ffX4_7 rfl rfl ?_
                    refine Z_iload_n (n := 180) dX4_gate_179 rfl rfl ?_
                    refine Z_dup2 (n := 181) dX4_gate_180 rfl rfl rfl ?_
                    refine Z_iald (n := 182) dX4_gate_181 rfl rfl rfl (by first | decide | assumption) (by omega) (by omega) (fun r181 s181 => ?_)
                    try simp only [uz_oo (show (32 : Nat) ≠ 34 by decide), uz_oo (show (32 : Nat) ≠ 35 by decide), uz_s] at r181 s181 ⊢
                    refine Z_iconst (n := 183) dX4_gate_182 rfl (by decide) ?_
                    refine Z_iadd (n := 184) dX4_gate_183 rfl (by omega) ?_
                    refine Z_iast (n := 185) dX4_gate_184 rfl rfl rfl (by first | decide | assumption) (by omega) (by omega) (by first | assumption | omega | decide) (by first | assumption | omega | decide) (by exact fun h => h) ?_
                    refine Z_aload_n (n := 186) dX4_gate_185 rfl rfl ?_
                    refine Z_getA (n := 189) dX4_gate_186 rfl ffX4_7 rfl rfl ?_
                    refine Z_iload_n (n := 190) dX4_gate_189 rfl rfl ?_
                    refine Z_iald (n := 191) dX4_gate_190 rfl rfl rfl (by first | decide | assumption) (by omega) (by omega) (fun r190 s190 => ?_)
                    try simp only [uz_oo (show (32 : Nat) ≠ 34 by decide), uz_oo (show (32 : Nat) ≠ 35 by decide), uz_s] at r190 s190 ⊢
                    refine Z_iconst (n := 192) dX4_gate_191 rfl (by decide) ?_
                    refine Z_isub (n := 193) dX4_gate_192 rfl (by omega) ?_
                    refine Z_iret dX4_gate_193 rfl ?_
                    exact ⟨rfl, Or.inr (Or.inr (Or.inr ⟨by omega, by omega, by omega, by omega, by omega, Or.inr ⟨by omega, Or.inr ⟨by omega, by omega, rfl⟩⟩⟩))⟩
                  · refine Z_bipush (n := 117) dX4_gate_115 rfl (by decide) (by decide) ?_
                    refine Z_iret dX4_gate_117 rfl ?_
                    exact ⟨rfl, Or.inr (Or.inr (Or.inr ⟨by omega, by omega, by omega, by omega, by omega, Or.inr ⟨by omega, Or.inl ⟨rfl, rfl, by omega⟩⟩⟩))⟩
                · refine Z_iload_n (n := 92) dX4_gate_91 rfl rfl ?_
                  refine Z_iconst (n := 93) dX4_gate_92 rfl (by decide) ?_
                  refine Z_bipush (n := 95) dX4_gate_93 rfl (by decide) (by decide) ?_
                  refine Z_callSi (n := 98) [_, _, _] _ dX4_gate_95 rfl cwX4_112 rfl rfl (Nat.le_of_ble_eq_true rfl) (by refine ⟨?_, ?_, ?_, ?_⟩ <;> exact Nat.le_of_ble_eq_true rfl) (fun _ _ => trivial) (zX4_in  ) ?_
                  intro x95 M95 J95 z95 f95 q95
                  obtain ⟨e95_1, e95_2, h95⟩ := q95
                  replace e95_1 := e95_1.symm; subst e95_1
                  replace e95_2 := e95_2.symm; subst e95_2
                  refine Z_if_ne (n := 101) (t := 104) dX4_gate_98 rfl (by decide) (fun c98 => ?_) (fun c98 => ?_)
                  · refine Z_aload_n (n := 105) dX4_gate_104 rfl rfl ?_
                    refine Z_getA (n := 108) dX4_gate_105 rfl ffX4_7 rfl rfl ?_
                    refine Z_iload_n (n := 109) dX4_gate_108 rfl rfl ?_
                    refine Z_iald (n := 110) dX4_gate_109 rfl rfl rfl (by first | decide | assumption) (by omega) (by omega) (fun r109 s109 => ?_)
                    try simp only [uz_oo (show (32 : Nat) ≠ 34 by decide), uz_oo (show (32 : Nat) ≠ 35 by decide), uz_s] at r109 s109 ⊢
                    refine Z_bipush (n := 112) dX4_gate_110 rfl (by decide) (by decide) ?_
                    refine Z_icmp_ne (n := 115) (t := 118) dX4_gate_112 rfl (by decide) (fun c112 => ?_) (fun c112 => ?_)
                    · refine Z_bipush (n := 120) dX4_gate_118 rfl (by decide) (by decide) ?_
                      refine Z_iload_n (n := 121) dX4_gate_120 rfl rfl ?_
                      refine Z_imul (n := 122) dX4_gate_121 rfl (by omega) ?_
                      refine Z_aload_n (n := 123) dX4_gate_122 rfl rfl ?_
                      refine Z_getA (n := 126) dX4_gate_123 rfl ffX4_7 rfl rfl ?_
                      refine Z_iload_n (n := 127) dX4_gate_126 rfl rfl ?_
                      refine Z_iald (n := 128) dX4_gate_127 rfl rfl rfl (by first | decide | assumption) (by omega) (by omega) (fun r127 s127 => ?_)
                      try simp only [uz_oo (show (32 : Nat) ≠ 34 by decide), uz_oo (show (32 : Nat) ≠ 35 by decide), uz_s] at r127 s127 ⊢
                      refine Z_iadd (n := 129) dX4_gate_128 rfl (by omega) ?_
                      refine Z_istore (L' := [_, _, _, _, _, _, _, _]) (n := 131) dX4_gate_129 rfl (by decide) rfl rfl ?_
                      refine Z_aload_n (n := 132) dX4_gate_131 rfl rfl ?_
                      refine Z_getA (n := 135) dX4_gate_132 rfl ffX4_16 rfl rfl ?_
                      refine Z_iload (n := 137) dX4_gate_135 rfl rfl ?_
                      refine Z_iload_n (n := 138) dX4_gate_137 rfl rfl ?_
                      refine Z_iast (n := 139) dX4_gate_138 rfl rfl rfl (by first | decide | assumption) (by omega) (by omega) (by first | assumption | omega | decide) (by first | assumption | omega | decide) (by exact fun h => h) ?_
                      refine Z_aload_n (n := 140) dX4_gate_139 rfl rfl ?_
                      refine Z_getA (n := 143) dX4_gate_140 rfl ffX4_19 rfl rfl ?_
                      refine Z_iconst (n := 144) dX4_gate_143 rfl (by decide) ?_
                      refine Z_iload (n := 146) dX4_gate_144 rfl rfl ?_
                      refine Z_imul (n := 147) dX4_gate_146 rfl (by omega) ?_
                      refine Z_iload_n (n := 148) dX4_gate_147 rfl rfl ?_
                      refine Z_iast (n := 149) dX4_gate_148 rfl rfl rfl (by first | decide | assumption) (by omega) (by omega) (by first | exact (show zI u from hav (vI u) (by simp)).1 | exact (show zI u from hav (vI u) (by simp)).2) (by first | exact (show zI u from hav (vI u) (by simp)).1 | exact (show zI u from hav (vI u) (by simp)).2) (by exact fun h => h) ?_
                      refine Z_aload_n (n := 150) dX4_gate_149 rfl rfl ?_
                      refine Z_getA (n := 153) dX4_gate_150 rfl ffX4_19 rfl rfl ?_
                      refine Z_iconst (n := 154) dX4_gate_153 rfl (by decide) ?_
                      refine Z_iload (n := 156) dX4_gate_154 rfl rfl ?_
                      refine Z_imul (n := 157) dX4_gate_156 rfl (by omega) ?_
                      refine Z_iconst (n := 158) dX4_gate_157 rfl (by decide) ?_
                      refine Z_iadd (n := 159) dX4_gate_158 rfl (by omega) ?_
                      refine Z_iload (n := 161) dX4_gate_159 rfl rfl ?_
                      refine Z_iast (n := 162) dX4_gate_161 rfl rfl rfl (by first | decide | assumption) (by omega) (by omega) (by first | exact (show zI v from hav (vI v) (by simp)).1 | exact (show zI v from hav (vI v) (by simp)).2) (by first | exact (show zI v from hav (vI v) (by simp)).1 | exact (show zI v from hav (vI v) (by simp)).2) (by exact fun h => h) ?_
                      refine Z_aload_n (n := 163) dX4_gate_162 rfl rfl ?_
                      refine Z_getA (n := 166) dX4_gate_163 rfl ffX4_19 rfl rfl ?_
                      refine Z_iconst (n := 167) dX4_gate_166 rfl (by decide) ?_
                      refine Z_iload (n := 169) dX4_gate_167 rfl rfl ?_
                      refine Z_imul (n := 170) dX4_gate_169 rfl (by omega) ?_
                      refine Z_iconst (n := 171) dX4_gate_170 rfl (by decide) ?_
                      refine Z_iadd (n := 172) dX4_gate_171 rfl (by omega) ?_
                      refine Z_iload (n := 174) dX4_gate_172 rfl rfl ?_
                      refine Z_iast (n := 175) dX4_gate_174 rfl rfl rfl (by first | decide | assumption) (by omega) (by omega) (by first | exact (show zI w from hav (vI w) (by simp)).1 | exact (show zI w from hav (vI w) (by simp)).2) (by first | exact (show zI w from hav (vI w) (by simp)).1 | exact (show zI w from hav (vI w) (by simp)).2) (by exact fun h => h) ?_
                      refine Z_aload_n (n := 176) dX4_gate_175 rfl rfl ?_
                      refine Z_getA (n := 179) dX4_gate_176 rfl ffX4_7 rfl rfl ?_
                      refine Z_iload_n (n := 180) dX4_gate_179 rfl rfl ?_
                      refine Z_dup2 (n := 181) dX4_gate_180 rfl rfl rfl ?_
                      refine Z_iald (n := 182) dX4_gate_181 rfl rfl rfl (by first | decide | assumption) (by omega) (by omega) (fun r181 s181 => ?_)
                      try simp only [uz_oo (show (32 : Nat) ≠ 34 by decide), uz_oo (show (32 : Nat) ≠ 35 by decide), uz_s] at r181 s181 ⊢
                      refine Z_iconst (n := 183) dX4_gate_182 rfl (by decide) ?_
                      refine Z_iadd (n := 184) dX4_gate_183 rfl (by omega) ?_
                      refine Z_iast (n := 185) dX4_gate_184 rfl rfl rfl (by first | decide | assumption) (by omega) (by omega) (by first | assumption | omega | decide) (by first | assumption | omega | decide) (by exact fun h => h) ?_
                      refine Z_aload_n (n := 186) dX4_gate_185 rfl rfl ?_
                      refine Z_getA (n := 189) dX4_gate_186 rfl ffX4_7 rfl rfl ?_
                      refine Z_iload_n (n := 190) dX4_gate_189 rfl rfl ?_
                      refine Z_iald (n := 191) dX4_gate_190 rfl rfl rfl (by first | decide | assumption) (by omega) (by omega) (fun r190 s190 => ?_)
                      try simp only [uz_oo (show (32 : Nat) ≠ 34 by decide), uz_oo (show (32 : Nat) ≠ 35 by decide), uz_s] at r190 s190 ⊢
                      refine Z_iconst (n := 192) dX4_gate_191 rfl (by decide) ?_
                      refine Z_isub (n := 193) dX4_gate_192 rfl (by omega) ?_
                      refine Z_iret dX4_gate_193 rfl ?_
                      exact ⟨rfl, Or.inr (Or.inr (Or.inr ⟨by omega, by omega, by omega, by omega, by omega, Or.inr ⟨by omega, Or.inr ⟨by omega, by omega, rfl⟩⟩⟩))⟩
                    · refine Z_bipush (n := 117) dX4_gate_115 rfl (by decide) (by decide) ?_
                      refine Z_iret dX4_gate_117 rfl ?_
                      exact ⟨rfl, Or.inr (Or.inr (Or.inr ⟨by omega, by omega, by omega, by omega, by omega, Or.inr ⟨by omega, Or.inl ⟨rfl, rfl, by omega⟩⟩⟩))⟩
                  · refine Z_bipush (n := 103) dX4_gate_101 rfl (by decide) (by decide) ?_
                    refine Z_iret dX4_gate_103 rfl ?_
                    first | exact ⟨rfl, Or.inr (Or.inl ⟨by omega, by omega, by omega, rfl, rfl⟩)⟩ | exact ⟨rfl, Or.inr (Or.inr (Or.inr ⟨by omega, by omega, by omega, by omega, by omega, Or.inl ⟨by omega, by omega, rfl, rfl⟩⟩))⟩
            · refine Z_aload_n (n := 66) dX4_gate_65 rfl rfl ?_
              refine Z_iload_n (n := 67) dX4_gate_66 rfl rfl ?_
              refine Z_iload (n := 69) dX4_gate_67 rfl rfl ?_
              refine Z_callVi (n := 72) [_, _] _ dX4_gate_69 rfl cwX4_124 rfl rfl rfl (Nat.le_of_ble_eq_true rfl) (by refine ⟨?_, ?_, ?_, ?_⟩ <;> exact Nat.le_of_ble_eq_true rfl) (fun _ _ => trivial) (zX4_isGate  (by first | assumption | omega | decide) (by first | assumption | omega | decide)) ?_
              intro x69 M69 J69 z69 f69 q69
              obtain ⟨e69_1, e69_2, h69⟩ := q69
              replace e69_1 := e69_1.symm; subst e69_1
              replace e69_2 := e69_2.symm; subst e69_2
              refine Z_if_ne (n := 75) (t := 77) dX4_gate_72 rfl (by decide) (fun c72 => ?_) (fun c72 => ?_)
              · refine Z_iload_n (n := 78) dX4_gate_77 rfl rfl ?_
                refine Z_iconst (n := 79) dX4_gate_78 rfl (by decide) ?_
                refine Z_bipush (n := 81) dX4_gate_79 rfl (by decide) (by decide) ?_
                refine Z_callSi (n := 84) [_, _, _] _ dX4_gate_81 rfl cwX4_112 rfl rfl (Nat.le_of_ble_eq_true rfl) (by refine ⟨?_, ?_, ?_, ?_⟩ <;> exact Nat.le_of_ble_eq_true rfl) (fun _ _ => trivial) (zX4_in  ) ?_
                intro x81 M81 J81 z81 f81 q81
                obtain ⟨e81_1, e81_2, h81⟩ := q81
                replace e81_1 := e81_1.symm; subst e81_1
                replace e81_2 := e81_2.symm; subst e81_2
                refine Z_if_eq (n := 87) (t := 101) dX4_gate_84 rfl (by decide) (fun c84 => ?_) (fun c84 => ?_)
                · refine Z_bipush (n := 103) dX4_gate_101 rfl (by decide) (by decide) ?_
                  refine Z_iret dX4_gate_103 rfl ?_
                  first | exact ⟨rfl, Or.inr (Or.inl ⟨by omega, by omega, by omega, rfl, rfl⟩)⟩ | exact ⟨rfl, Or.inr (Or.inr (Or.inr ⟨by omega, by omega, by omega, by omega, by omega, Or.inl ⟨by omega, by omega, rfl, rfl⟩⟩))⟩
                · refine Z_iload_n (n := 88) dX4_gate_87 rfl rfl ?_
                  refine Z_if_ne (n := 91) (t := 104) dX4_gate_88 rfl (by decide) (fun c88 => ?_) (fun c88 => ?_)
                  · refine Z_aload_n (n := 105) dX4_gate_104 rfl rfl ?_
                    refine Z_getA (n := 108) dX4_gate_105 rfl ffX4_7 rfl rfl ?_
                    refine Z_iload_n (n := 109) dX4_gate_108 rfl rfl ?_
                    refine Z_iald (n := 110) dX4_gate_109 rfl rfl rfl (by first | decide | assumption) (by omega) (by omega) (fun r109 s109 => ?_)
                    try simp only [uz_oo (show (32 : Nat) ≠ 34 by decide), uz_oo (show (32 : Nat) ≠ 35 by decide), uz_s] at r109 s109 ⊢
                    refine Z_bipush (n := 112) dX4_gate_110 rfl (by decide) (by decide) ?_
                    refine Z_icmp_ne (n := 115) (t := 118) dX4_gate_112 rfl (by decide) (fun c112 => ?_) (fun c112 => ?_)
                    · refine Z_bipush (n := 120) dX4_gate_118 rfl (by decide) (by decide) ?_
                      refine Z_iload_n (n := 121) dX4_gate_120 rfl rfl ?_
                      refine Z_imul (n := 122) dX4_gate_121 rfl (by omega) ?_
                      refine Z_aload_n (n := 123) dX4_gate_122 rfl rfl ?_
                      refine Z_getA (n := 126) dX4_gate_123 rfl ffX4_7 rfl rfl ?_
                      refine Z_iload_n (n := 127) dX4_gate_126 rfl rfl ?_
                      refine Z_iald (n := 128) dX4_gate_127 rfl rfl rfl (by first | decide | assumption) (by omega) (by omega) (fun r127 s127 => ?_)
                      try simp only [uz_oo (show (32 : Nat) ≠ 34 by decide), uz_oo (show (32 : Nat) ≠ 35 by decide), uz_s] at r127 s127 ⊢
                      refine Z_iadd (n := 129) dX4_gate_128 rfl (by omega) ?_
                      refine Z_istore (L' := [_, _, _, _, _, _, _, _]) (n := 131) dX4_gate_129 rfl (by decide) rfl rfl ?_
                      refine Z_aload_n (n := 132) dX4_gate_131 rfl rfl ?_
                      refine Z_getA (n := 135) dX4_gate_132 rfl ffX4_16 rfl rfl ?_
                      refine Z_iload (n := 137) dX4_gate_135 rfl rfl ?_
                      refine Z_iload_n (n := 138) dX4_gate_137 rfl rfl ?_
                      refine Z_iast (n := 139) dX4_gate_138 rfl rfl rfl (by first | decide | assumption) (by omega) (by omega) (by first | assumption | omega | decide) (by first | assumption | omega | decide) (by exact fun h => h) ?_
                      refine Z_aload_n (n := 140) dX4_gate_139 rfl rfl ?_
                      refine Z_getA (n := 143) dX4_gate_140 rfl ffX4_19 rfl rfl ?_
                      refine Z_iconst (n := 144) dX4_gate_143 rfl (by decide) ?_
                      refine Z_iload (n := 146) dX4_gate_144 rfl rfl ?_
                      refine Z_imul (n := 147) dX4_gate_146 rfl (by omega) ?_
                      refine Z_iload_n (n := 148) dX4_gate_147 rfl rfl ?_
                      refine Z_iast (n := 149) dX4_gate_148 rfl rfl rfl (by first | decide | assumption) (by omega) (by omega) (by first | exact (show zI u from hav (vI u) (by simp)).1 | exact (show zI u from hav (vI u) (by simp)).2) (by first | exact (show zI u from hav (vI u) (by simp)).1 | exact (show zI u from hav (vI u) (by simp)).2) (by exact fun h => h) ?_
                      refine Z_aload_n (n := 150) dX4_gate_149 rfl rfl ?_
                      refine Z_getA (n := 153) dX4_gate_150 rfl ffX4_19 rfl rfl ?_
                      refine Z_iconst (n := 154) dX4_gate_153 rfl (by decide) ?_
                      refine Z_iload (n := 156) dX4_gate_154 rfl rfl ?_
                      refine Z_imul (n := 157) dX4_gate_156 rfl (by omega) ?_
                      refine Z_iconst (n := 158) dX4_gate_157 rfl (by decide) ?_
                      refine Z_iadd (n := 159) dX4_gate_158 rfl (by omega) ?_
                      refine Z_iload (n := 161) dX4_gate_159 rfl rfl ?_
                      refine Z_iast (n := 162) dX4_gate_161 rfl rfl rfl (by first | decide | assumption) (by omega) (by omega) (by first | exact (show zI v from hav (vI v) (by simp)).1 | exact (show zI v from hav (vI v) (by simp)).2) (by first | exact (show zI v from hav (vI v) (by simp)).1 | exact (show zI v from hav (vI v) (by simp)).2) (by exact fun h => h) ?_
                      refine Z_aload_n (n := 163) dX4_gate_162 rfl rfl ?_
                      refine Z_getA (n := 166) dX4_gate_163 rfl ffX4_19 rfl rfl ?_
                      refine Z_iconst (n := 167) dX4_gate_166 rfl (by decide) ?_
                      refine Z_iload (n := 169) dX4_gate_167 rfl rfl ?_
                      refine Z_imul (n := 170) dX4_gate_169 rfl (by omega) ?_
                      refine Z_iconst (n := 171) dX4_gate_170 rfl (by decide) ?_
                      refine Z_iadd (n := 172) dX4_gate_171 rfl (by omega) ?_
                      refine Z_iload (n := 174) dX4_gate_172 rfl rfl ?_
                      refine Z_iast (n := 175) dX4_gate_174 rfl rfl rfl (by first | decide | assumption) (by omega) (by omega) (by first | exact (show zI w from hav (vI w) (by simp)).1 | exact (show zI w from hav (vI w) (by simp)).2) (by first | exact (show zI w from hav (vI w) (by simp)).1 | exact (show zI w from hav (vI w) (by simp)).2) (by exact fun h => h) ?_
                      refine Z_aload_n (n := 176) dX4_gate_175 rfl rfl ?_
                      refine Z_getA (n := 179) dX4_gate_176 rfl ffX4_7 rfl rfl ?_
                      refine Z_iload_n (n := 180) dX4_gate_179 rfl rfl ?_
                      refine Z_dup2 (n := 181) dX4_gate_180 rfl rfl rfl ?_
                      refine Z_iald (n := 182) dX4_gate_181 rfl rfl rfl (by first | decide | assumption) (by omega) (by omega) (fun r181 s181 => ?_)
                      try simp only [uz_oo (show (32 : Nat) ≠ 34 by decide), uz_oo (show (32 : Nat) ≠ 35 by decide), uz_s] at r181 s181 ⊢
                      refine Z_iconst (n := 183) dX4_gate_182 rfl (by decide) ?_
                      refine Z_iadd (n := 184) dX4_gate_183 rfl (by omega) ?_
                      refine Z_iast (n := 185) dX4_gate_184 rfl rfl rfl (by first | decide | assumption) (by omega) (by omega) (by first | assumption | omega | decide) (by first | assumption | omega | decide) (by exact fun h => h) ?_
                      refine Z_aload_n (n := 186) dX4_gate_185 rfl rfl ?_
                      refine Z_getA (n := 189) dX4_gate_186 rfl ffX4_7 rfl rfl ?_
                      refine Z_iload_n (n := 190) dX4_gate_189 rfl rfl ?_
                      refine Z_iald (n := 191) dX4_gate_190 rfl rfl rfl (by first | decide | assumption) (by omega) (by omega) (fun r190 s190 => ?_)
                      try simp only [uz_oo (show (32 : Nat) ≠ 34 by decide), uz_oo (show (32 : Nat) ≠ 35 by decide), uz_s] at r190 s190 ⊢
                      refine Z_iconst (n := 192) dX4_gate_191 rfl (by decide) ?_
                      refine Z_isub (n := 193) dX4_gate_192 rfl (by omega) ?_
                      refine Z_iret dX4_gate_193 rfl ?_
                      exact ⟨rfl, Or.inr (Or.inr (Or.inr ⟨by omega, by omega, by omega, by omega, by omega, Or.inr ⟨by omega, Or.inr ⟨by omega, by omega, rfl⟩⟩⟩))⟩
                    · refine Z_bipush (n := 117) dX4_gate_115 rfl (by decide) (by decide) ?_
                      refine Z_iret dX4_gate_117 rfl ?_
                      exact ⟨rfl, Or.inr (Or.inr (Or.inr ⟨by omega, by omega, by omega, by omega, by omega, Or.inr ⟨by omega, Or.inl ⟨rfl, rfl, by omega⟩⟩⟩))⟩
                  · refine Z_iload_n (n := 92) dX4_gate_91 rfl rfl ?_
                    refine Z_iconst (n := 93) dX4_gate_92 rfl (by decide) ?_
                    refine Z_bipush (n := 95) dX4_gate_93 rfl (by decide) (by decide) ?_
                    refine Z_callSi (n := 98) [_, _, _] _ dX4_gate_95 rfl cwX4_112 rfl rfl (Nat.le_of_ble_eq_true rfl) (by refine ⟨?_, ?_, ?_, ?_⟩ <;> exact Nat.le_of_ble_eq_true rfl) (fun _ _ => trivial) (zX4_in  ) ?_
                    intro x95 M95 J95 z95 f95 q95
                    obtain ⟨e95_1, e95_2, h95⟩ := q95
                    replace e95_1 := e95_1.symm; subst e95_1
                    replace e95_2 := e95_2.symm; subst e95_2
                    refine Z_if_ne (n := 101) (t := 104) dX4_gate_98 rfl (by decide) (fun c98 => ?_) (fun c98 => ?_)
                    · refine Z_aload_n (n := 105) dX4_gate_104 rfl rfl ?_
                      refine Z_getA (n := 108) dX4_gate_105 rfl ffX4_7 rfl rfl ?_
                      refine Z_iload_n (n := 109) dX4_gate_108 rfl rfl ?_
                      refine Z_iald (n := 110) dX4_gate_109 rfl rfl rfl (by first | decide | assumption) (by omega) (by omega) (fun r109 s109 => ?_)
                      try simp only [uz_oo (show (32 : Nat) ≠ 34 by decide), uz_oo (show (32 : Nat) ≠ 35 by decide), uz_s] at r109 s109 ⊢
                      refine Z_bipush (n := 112) dX4_gate_110 rfl (by decide) (by decide) ?_
                      refine Z_icmp_ne (n := 115) (t := 118) dX4_gate_112 rfl (by decide) (fun c112 => ?_) (fun c112 => ?_)
                      · refine Z_bipush (n := 120) dX4_gate_118 rfl (by decide) (by decide) ?_
                        refine Z_iload_n (n := 121) dX4_gate_120 rfl rfl ?_
                        refine Z_imul (n := 122) dX4_gate_121 rfl (by omega) ?_
                        refine Z_aload_n (n := 123) dX4_gate_122 rfl rfl ?_
                        refine Z_getA (n := 126) dX4_gate_123 rfl ffX4_7 rfl rfl ?_
                        refine Z_iload_n (n := 127) dX4_gate_126 rfl rfl ?_
                        refine Z_iald (n := 128) dX4_gate_127 rfl rfl rfl (by first | decide | assumption) (by omega) (by omega) (fun r127 s127 => ?_)
                        try simp only [uz_oo (show (32 : Nat) ≠ 34 by decide), uz_oo (show (32 : Nat) ≠ 35 by decide), uz_s] at r127 s127 ⊢
                        refine Z_iadd (n := 129) dX4_gate_128 rfl (by omega) ?_
                        refine Z_istore (L' := [_, _, _, _, _, _, _, _]) (n := 131) dX4_gate_129 rfl (by decide) rfl rfl ?_
                        refine Z_aload_n (n := 132) dX4_gate_131 rfl rfl ?_
                        refine Z_getA (n := 135) dX4_gate_132 rfl ffX4_16 rfl rfl ?_
                        refine Z_iload (n := 137) dX4_gate_135 rfl rfl ?_
                        refine Z_iload_n (n := 138) dX4_gate_137 rfl rfl ?_
                        refine Z_iast (n := 139) dX4_gate_138 rfl rfl rfl (by first | decide | assumption) (by omega) (by omega) (by first | assumption | omega | decide) (by first | assumption | omega | decide) (by exact fun h => h) ?_
                        refine Z_aload_n (n := 140) dX4_gate_139 rfl rfl ?_
                        refine Z_getA (n := 143) dX4_gate_140 rfl ffX4_19 rfl rfl ?_
                        refine Z_iconst (n := 144) dX4_gate_143 rfl (by decide) ?_
                        refine Z_iload (n := 146) dX4_gate_144 rfl rfl ?_
                        refine Z_imul (n := 147) dX4_gate_146 rfl (by omega) ?_
                        refine Z_iload_n (n := 148) dX4_gate_147 rfl rfl ?_
                        refine Z_iast (n := 149) dX4_gate_148 rfl rfl rfl (by first | decide | assumption) (by omega) (by omega) (by first | exact (show zI u from hav (vI u) (by simp)).1 | exact (show zI u from hav (vI u) (by simp)).2) (by first | exact (show zI u from hav (vI u) (by simp)).1 | exact (show zI u from hav (vI u) (by simp)).2) (by exact fun h => h) ?_
                        refine Z_aload_n (n := 150) dX4_gate_149 rfl rfl ?_
                        refine Z_getA (n := 153) dX4_gate_150 rfl ffX4_19 rfl rfl ?_
                        refine Z_iconst (n := 154) dX4_gate_153 rfl (by decide) ?_
                        refine Z_iload (n := 156) dX4_gate_154 rfl rfl ?_
                        refine Z_imul (n := 157) dX4_gate_156 rfl (by omega) ?_
                        refine Z_iconst (n := 158) dX4_gate_157 rfl (by decide) ?_
                        refine Z_iadd (n := 159) dX4_gate_158 rfl (by omega) ?_
                        refine Z_iload (n := 161) dX4_gate_159 rfl rfl ?_
                        refine Z_iast (n := 162) dX4_gate_161 rfl rfl rfl (by first | decide | assumption) (by omega) (by omega) (by first | exact (show zI v from hav (vI v) (by simp)).1 | exact (show zI v from hav (vI v) (by simp)).2) (by first | exact (show zI v from hav (vI v) (by simp)).1 | exact (show zI v from hav (vI v) (by simp)).2) (by exact fun h => h) ?_
                        refine Z_aload_n (n := 163) dX4_gate_162 rfl rfl ?_
                        refine Z_getA (n := 166) dX4_gate_163 rfl ffX4_19 rfl rfl ?_
                        refine Z_iconst (n := 167) dX4_gate_166 rfl (by decide) ?_
                        refine Z_iload (n := 169) dX4_gate_167 rfl rfl ?_
                        refine Z_imul (n := 170) dX4_gate_169 rfl (by omega) ?_
                        refine Z_iconst (n := 171) dX4_gate_170 rfl (by decide) ?_
                        refine Z_iadd (n := 172) dX4_gate_171 rfl (by omega) ?_
                        refine Z_iload (n := 174) dX4_gate_172 rfl rfl ?_
                        refine Z_iast (n := 175) dX4_gate_174 rfl rfl rfl (by first | decide | assumption) (by omega) (by omega) (by first | exact (show zI w from hav (vI w) (by simp)).1 | exact (show zI w from hav (vI w) (by simp)).2) (by first | exact (show zI w from hav (vI w) (by simp)).1 | exact (show zI w from hav (vI w) (by simp)).2) (by exact fun h => h) ?_
                        refine Z_aload_n (n := 176) dX4_gate_175 rfl rfl ?_
                        refine Z_getA (n := 179) dX4_gate_176 rfl ffX4_7 rfl rfl ?_
                        refine Z_iload_n (n := 180) dX4_gate_179 rfl rfl ?_
                        refine Z_dup2 (n := 181) dX4_gate_180 rfl rfl rfl ?_
                        refine Z_iald (n := 182) dX4_gate_181 rfl rfl rfl (by first | decide | assumption) (by omega) (by omega) (fun r181 s181 => ?_)
                        try simp only [uz_oo (show (32 : Nat) ≠ 34 by decide), uz_oo (show (32 : Nat) ≠ 35 by decide), uz_s] at r181 s181 ⊢
                        refine Z_iconst (n := 183) dX4_gate_182 rfl (by decide) ?_
                        refine Z_iadd (n := 184) dX4_gate_183 rfl (by omega) ?_
                        refine Z_iast (n := 185) dX4_gate_184 rfl rfl rfl (by first | decide | assumption) (by omega) (by omega) (by first | assumption | omega | decide) (by first | assumption | omega | decide) (by exact fun h => h) ?_
                        refine Z_aload_n (n := 186) dX4_gate_185 rfl rfl ?_
                        refine Z_getA (n := 189) dX4_gate_186 rfl ffX4_7 rfl rfl ?_
                        refine Z_iload_n (n := 190) dX4_gate_189 rfl rfl ?_
                        refine Z_iald (n := 191) dX4_gate_190 rfl rfl rfl (by first | decide | assumption) (by omega) (by omega) (fun r190 s190 => ?_)
                        try simp only [uz_oo (show (32 : Nat) ≠ 34 by decide), uz_oo (show (32 : Nat) ≠ 35 by decide), uz_s] at r190 s190 ⊢
                        refine Z_iconst (n := 192) dX4_gate_191 rfl (by decide) ?_
                        refine Z_isub (n := 193) dX4_gate_192 rfl (by omega) ?_
                        refine Z_iret dX4_gate_193 rfl ?_
                        exact ⟨rfl, Or.inr (Or.inr (Or.inr ⟨by omega, by omega, by omega, by omega, by omega, Or.inr ⟨by omega, Or.inr ⟨by omega, by omega, rfl⟩⟩⟩))⟩
                      · refine Z_bipush (n := 117) dX4_gate_115 rfl (by decide) (by decide) ?_
                        refine Z_iret dX4_gate_117 rfl ?_
                        exact ⟨rfl, Or.inr (Or.inr (Or.inr ⟨by omega, by omega, by omega, by omega, by omega, Or.inr ⟨by omega, Or.inl ⟨rfl, rfl, by omega⟩⟩⟩))⟩
                    · refine Z_bipush (n := 103) dX4_gate_101 rfl (by decide) (by decide) ?_
                      refine Z_iret dX4_gate_103 rfl ?_
                      first | exact ⟨rfl, Or.inr (Or.inl ⟨by omega, by omega, by omega, rfl, rfl⟩)⟩ | exact ⟨rfl, Or.inr (Or.inr (Or.inr ⟨by omega, by omega, by omega, by omega, by omega, Or.inl ⟨by omega, by omega, rfl, rfl⟩⟩))⟩
              · refine Z_iconst (n := 76) dX4_gate_75 rfl (by decide) ?_
                refine Z_iret dX4_gate_76 rfl ?_
                exact ⟨rfl, Or.inr (Or.inr (Or.inl ⟨by omega, by omega, by omega, by omega, by omega, rfl, rfl⟩))⟩
      · refine Z_aload_n (n := 35) dX4_gate_34 rfl rfl ?_
        refine Z_iload_n (n := 36) dX4_gate_35 rfl rfl ?_
        refine Z_iload_n (n := 37) dX4_gate_36 rfl rfl ?_
        refine Z_callVi (n := 40) [_, _] _ dX4_gate_37 rfl cwX4_124 rfl rfl rfl (Nat.le_of_ble_eq_true rfl) (by refine ⟨?_, ?_, ?_, ?_⟩ <;> exact Nat.le_of_ble_eq_true rfl) (fun _ _ => trivial) (zX4_isGate  (by first | assumption | omega | decide) (by first | assumption | omega | decide)) ?_
        intro x37 M37 J37 z37 f37 q37
        obtain ⟨e37_1, e37_2, h37⟩ := q37
        replace e37_1 := e37_1.symm; subst e37_1
        replace e37_2 := e37_2.symm; subst e37_2
        refine Z_if_eq (n := 43) (t := 75) dX4_gate_40 rfl (by decide) (fun c40 => ?_) (fun c40 => ?_)
        · refine Z_iconst (n := 76) dX4_gate_75 rfl (by decide) ?_
          refine Z_iret dX4_gate_76 rfl ?_
          exact ⟨rfl, Or.inr (Or.inr (Or.inl ⟨by omega, by omega, by omega, by omega, by omega, rfl, rfl⟩))⟩
        · refine Z_iload (n := 45) dX4_gate_43 rfl rfl ?_
          refine Z_iconst (n := 46) dX4_gate_45 rfl (by decide) ?_
          refine Z_icmp_le (n := 49) (t := 59) dX4_gate_46 rfl (by decide) (fun c46 => ?_) (fun c46 => ?_)
          · refine Z_iload (n := 61) dX4_gate_59 rfl rfl ?_
            refine Z_iconst (n := 62) dX4_gate_61 rfl (by decide) ?_
            refine Z_icmp_le (n := 65) (t := 77) dX4_gate_62 rfl (by decide) (fun c62 => ?_) (fun c62 => ?_)
            · refine Z_iload_n (n := 78) dX4_gate_77 rfl rfl ?_
              refine Z_iconst (n := 79) dX4_gate_78 rfl (by decide) ?_
              refine Z_bipush (n := 81) dX4_gate_79 rfl (by decide) (by decide) ?_
              refine Z_callSi (n := 84) [_, _, _] _ dX4_gate_81 rfl cwX4_112 rfl rfl (Nat.le_of_ble_eq_true rfl) (by refine ⟨?_, ?_, ?_, ?_⟩ <;> exact Nat.le_of_ble_eq_true rfl) (fun _ _ => trivial) (zX4_in  ) ?_
              intro x81 M81 J81 z81 f81 q81
              obtain ⟨e81_1, e81_2, h81⟩ := q81
              replace e81_1 := e81_1.symm; subst e81_1
              replace e81_2 := e81_2.symm; subst e81_2
              refine Z_if_eq (n := 87) (t := 101) dX4_gate_84 rfl (by decide) (fun c84 => ?_) (fun c84 => ?_)
              · refine Z_bipush (n := 103) dX4_gate_101 rfl (by decide) (by decide) ?_
                refine Z_iret dX4_gate_103 rfl ?_
                first | exact ⟨rfl, Or.inr (Or.inl ⟨by omega, by omega, by omega, rfl, rfl⟩)⟩ | exact ⟨rfl, Or.inr (Or.inr (Or.inr ⟨by omega, by omega, by omega, by omega, by omega, Or.inl ⟨by omega, by omega, rfl, rfl⟩⟩))⟩
              · refine Z_iload_n (n := 88) dX4_gate_87 rfl rfl ?_
                refine Z_if_ne (n := 91) (t := 104) dX4_gate_88 rfl (by decide) (fun c88 => ?_) (fun c88 => ?_)
                · refine Z_aload_n (n := 105) dX4_gate_104 rfl rfl ?_
                  refine Z_getA (n := 108) dX4_gate_105 rfl ffX4_7 rfl rfl ?_
                  refine Z_iload_n (n := 109) dX4_gate_108 rfl rfl ?_
                  refine Z_iald (n := 110) dX4_gate_109 rfl rfl rfl (by first | decide | assumption) (by omega) (by omega) (fun r109 s109 => ?_)
                  try simp only [uz_oo (show (32 : Nat) ≠ 34 by decide), uz_oo (show (32 : Nat) ≠ 35 by decide), uz_s] at r109 s109 ⊢
                  refine Z_bipush (n := 112) dX4_gate_110 rfl (by decide) (by decide) ?_
                  refine Z_icmp_ne (n := 115) (t := 118) dX4_gate_112 rfl (by decide) (fun c112 => ?_) (fun c112 => ?_)
                  · refine Z_bipush (n := 120) dX4_gate_118 rfl (by decide) (by decide) ?_
                    refine Z_iload_n (n := 121) dX4_gate_120 rfl rfl ?_
                    refine Z_imul (n := 122) dX4_gate_121 rfl (by omega) ?_
                    refine Z_aload_n (n := 123) dX4_gate_122 rfl rfl ?_
                    refine Z_getA (n := 126) dX4_gate_123 rfl ffX4_7 rfl rfl ?_
                    refine Z_iload_n (n := 127) dX4_gate_126 rfl rfl ?_
                    refine Z_iald (n := 128) dX4_gate_127 rfl rfl rfl (by first | decide | assumption) (by omega) (by omega) (fun r127 s127 => ?_)
                    try simp only [uz_oo (show (32 : Nat) ≠ 34 by decide), uz_oo (show (32 : Nat) ≠ 35 by decide), uz_s] at r127 s127 ⊢
                    refine Z_iadd (n := 129) dX4_gate_128 rfl (by omega) ?_
                    refine Z_istore (L' := [_, _, _, _, _, _, _, _]) (n := 131) dX4_gate_129 rfl (by decide) rfl rfl ?_
                    refine Z_aload_n (n := 132) dX4_gate_131 rfl rfl ?_
                    refine Z_getA (n := 135) dX4_gate_132 rfl ffX4_16 rfl rfl ?_
                    refine Z_iload (n := 137) dX4_gate_135 rfl rfl ?_
                    refine Z_iload_n (n := 138) dX4_gate_137 rfl rfl ?_
                    refine Z_iast (n := 139) dX4_gate_138 rfl rfl rfl (by first | decide | assumption) (by omega) (by omega) (by first | assumption | omega | decide) (by first | assumption | omega | decide) (by exact fun h => h) ?_
                    refine Z_aload_n (n := 140) dX4_gate_139 rfl rfl ?_
                    refine Z_getA (n := 143) dX4_gate_140 rfl ffX4_19 rfl rfl ?_
                    refine Z_iconst (n := 144) dX4_gate_143 rfl (by decide) ?_
                    refine Z_iload (n := 146) dX4_gate_144 rfl rfl ?_
                    refine Z_imul (n := 147) dX4_gate_146 rfl (by omega) ?_
                    refine Z_iload_n (n := 148) dX4_gate_147 rfl rfl ?_
                    refine Z_iast (n := 149) dX4_gate_148 rfl rfl rfl (by first | decide | assumption) (by omega) (by omega) (by first | exact (show zI u from hav (vI u) (by simp)).1 | exact (show zI u from hav (vI u) (by simp)).2) (by first | exact (show zI u from hav (vI u) (by simp)).1 | exact (show zI u from hav (vI u) (by simp)).2) (by exact fun h => h) ?_
                    refine Z_aload_n (n := 150) dX4_gate_149 rfl rfl ?_
                    refine Z_getA (n := 153) dX4_gate_150 rfl ffX4_19 rfl rfl ?_
                    refine Z_iconst (n := 154) dX4_gate_153 rfl (by decide) ?_
                    refine Z_iload (n := 156) dX4_gate_154 rfl rfl ?_
                    refine Z_imul (n := 157) dX4_gate_156 rfl (by omega) ?_
                    refine Z_iconst (n := 158) dX4_gate_157 rfl (by decide) ?_
                    refine Z_iadd (n := 159) dX4_gate_158 rfl (by omega) ?_
                    refine Z_iload (n := 161) dX4_gate_159 rfl rfl ?_
                    refine Z_iast (n := 162) dX4_gate_161 rfl rfl rfl (by first | decide | assumption) (by omega) (by omega) (by first | exact (show zI v from hav (vI v) (by simp)).1 | exact (show zI v from hav (vI v) (by simp)).2) (by first | exact (show zI v from hav (vI v) (by simp)).1 | exact (show zI v from hav (vI v) (by simp)).2) (by exact fun h => h) ?_
                    refine Z_aload_n (n := 163) dX4_gate_162 rfl rfl ?_
                    refine Z_getA (n := 166) dX4_gate_163 rfl ffX4_19 rfl rfl ?_
                    refine Z_iconst (n := 167) dX4_gate_166 rfl (by decide) ?_
                    refine Z_iload (n := 169) dX4_gate_167 rfl rfl ?_
                    refine Z_imul (n := 170) dX4_gate_169 rfl (by omega) ?_
                    refine Z_iconst (n := 171) dX4_gate_170 rfl (by decide) ?_
                    refine Z_iadd (n := 172) dX4_gate_171 rfl (by omega) ?_
                    refine Z_iload (n := 174) dX4_gate_172 rfl rfl ?_
                    refine Z_iast (n := 175) dX4_gate_174 rfl rfl rfl (by first | decide | assumption) (by omega) (by omega) (by first | exact (show zI w from hav (vI w) (by simp)).1 | exact (show zI w from hav (vI w) (by simp)).2) (by first | exact (show zI w from hav (vI w) (by simp)).1 | exact (show zI w from hav (vI w) (by simp)).2) (by exact fun h => h) ?_
                    refine Z_aload_n (n := 176) dX4_gate_175 rfl rfl ?_
                    refine Z_getA (n := 179) dX4_gate_176 rfl ffX4_7 rfl rfl ?_
                    refine Z_iload_n (n := 180) dX4_gate_179 rfl rfl ?_
                    refine Z_dup2 (n := 181) dX4_gate_180 rfl rfl rfl ?_
                    refine Z_iald (n := 182) dX4_gate_181 rfl rfl rfl (by first | decide | assumption) (by omega) (by omega) (fun r181 s181 => ?_)
                    try simp only [uz_oo (show (32 : Nat) ≠ 34 by decide), uz_oo (show (32 : Nat) ≠ 35 by decide), uz_s] at r181 s181 ⊢
                    refine Z_iconst (n := 183) dX4_gate_182 rfl (by decide) ?_
                    refine Z_iadd (n := 184) dX4_gate_183 rfl (by omega) ?_
                    refine Z_iast (n := 185) dX4_gate_184 rfl rfl rfl (by first | decide | assumption) (by omega) (by omega) (by first | assumption | omega | decide) (by first | assumption | omega | decide) (by exact fun h => h) ?_
                    refine Z_aload_n (n := 186) dX4_gate_185 rfl rfl ?_
                    refine Z_getA (n := 189) dX4_gate_186 rfl ffX4_7 rfl rfl ?_
                    refine Z_iload_n (n := 190) dX4_gate_189 rfl rfl ?_
                    refine Z_iald (n := 191) dX4_gate_190 rfl rfl rfl (by first | decide | assumption) (by omega) (by omega) (fun r190 s190 => ?_)
                    try simp only [uz_oo (show (32 : Nat) ≠ 34 by decide), uz_oo (show (32 : Nat) ≠ 35 by decide), uz_s] at r190 s190 ⊢
                    refine Z_iconst (n := 192) dX4_gate_191 rfl (by decide) ?_
                    refine Z_isub (n := 193) dX4_gate_192 rfl (by omega) ?_
                    refine Z_iret dX4_gate_193 rfl ?_
                    exact ⟨rfl, Or.inr (Or.inr (Or.inr ⟨by omega, by omega, by omega, by omega, by omega, Or.inr ⟨by omega, Or.inr ⟨by omega, by omega, rfl⟩⟩⟩))⟩
                  · refine Z_bipush (n := 117) dX4_gate_115 rfl (by decide) (by decide) ?_
                    refine Z_iret dX4_gate_117 rfl ?_
                    exact ⟨rfl, Or.inr (Or.inr (Or.inr ⟨by omega, by omega, by omega, by omega, by omega, Or.inr ⟨by omega, Or.inl ⟨rfl, rfl, by omega⟩⟩⟩))⟩
                · refine Z_iload_n (n := 92) dX4_gate_91 rfl rfl ?_
                  refine Z_iconst (n := 93) dX4_gate_92 rfl (by decide) ?_
                  refine Z_bipush (n := 95) dX4_gate_93 rfl (by decide) (by decide) ?_
                  refine Z_callSi (n := 98) [_, _, _] _ dX4_gate_95 rfl cwX4_112 rfl rfl (Nat.le_of_ble_eq_true rfl) (by refine ⟨?_, ?_, ?_, ?_⟩ <;> exact Nat.le_of_ble_eq_true rfl) (fun _ _ => trivial) (zX4_in  ) ?_
                  intro x95 M95 J95 z95 f95 q95
                  obtain ⟨e95_1, e95_2, h95⟩ := q95
                  replace e95_1 := e95_1.symm; subst e95_1
                  replace e95_2 := e95_2.symm; subst e95_2
                  refine Z_if_ne (n := 101) (t := 104) dX4_gate_98 rfl (by decide) (fun c98 => ?_) (fun c98 => ?_)
                  · refine Z_aload_n (n := 105) dX4_gate_104 rfl rfl ?_
                    refine Z_getA (n := 108) dX4_gate_105 rfl ffX4_7 rfl rfl ?_
                    refine Z_iload_n (n := 109) dX4_gate_108 rfl rfl ?_
                    refine Z_iald (n := 110) dX4_gate_109 rfl rfl rfl (by first | decide | assumption) (by omega) (by omega) (fun r109 s109 => ?_)
                    try simp only [uz_oo (show (32 : Nat) ≠ 34 by decide), uz_oo (show (32 : Nat) ≠ 35 by decide), uz_s] at r109 s109 ⊢
                    refine Z_bipush (n := 112) dX4_gate_110 rfl (by decide) (by decide) ?_
                    refine Z_icmp_ne (n := 115) (t := 118) dX4_gate_112 rfl (by decide) (fun c112 => ?_) (fun c112 => ?_)
                    · refine Z_bipush (n := 120) dX4_gate_118 rfl (by decide) (by decide) ?_
                      refine Z_iload_n (n := 121) dX4_gate_120 rfl rfl ?_
                      refine Z_imul (n := 122) dX4_gate_121 rfl (by omega) ?_
                      refine Z_aload_n (n := 123) dX4_gate_122 rfl rfl ?_
                      refine Z_getA (n := 126) dX4_gate_123 rfl ffX4_7 rfl rfl ?_
                      refine Z_iload_n (n := 127) dX4_gate_126 rfl rfl ?_
                      refine Z_iald (n := 128) dX4_gate_127 rfl rfl rfl (by first | decide | assumption) (by omega) (by omega) (fun r127 s127 => ?_)
                      try simp only [uz_oo (show (32 : Nat) ≠ 34 by decide), uz_oo (show (32 : Nat) ≠ 35 by decide), uz_s] at r127 s127 ⊢
                      refine Z_iadd (n := 129) dX4_gate_128 rfl (by omega) ?_
                      refine Z_istore (L' := [_, _, _, _, _, _, _, _]) (n := 131) dX4_gate_129 rfl (by decide) rfl rfl ?_
                      refine Z_aload_n (n := 132) dX4_gate_131 rfl rfl ?_
                      refine Z_getA (n := 135) dX4_gate_132 rfl ffX4_16 rfl rfl ?_
                      refine Z_iload (n := 137) dX4_gate_135 rfl rfl ?_
                      refine Z_iload_n (n := 138) dX4_gate_137 rfl rfl ?_
                      refine Z_iast (n := 139) dX4_gate_138 rfl rfl rfl (by first | decide | assumption) (by omega) (by omega) (by first | assumption | omega | decide) (by first | assumption | omega | decide) (by exact fun h => h) ?_
                      refine Z_aload_n (n := 140) dX4_gate_139 rfl rfl ?_
                      refine Z_getA (n := 143) dX4_gate_140 rfl ffX4_19 rfl rfl ?_
                      refine Z_iconst (n := 144) dX4_gate_143 rfl (by decide) ?_
                      refine Z_iload (n := 146) dX4_gate_144 rfl rfl ?_
                      refine Z_imul (n := 147) dX4_gate_146 rfl (by omega) ?_
                      refine Z_iload_n (n := 148) dX4_gate_147 rfl rfl ?_
                      refine Z_iast (n := 149) dX4_gate_148 rfl rfl rfl (by first | decide | assumption) (by omega) (by omega) (by first | exact (show zI u from hav (vI u) (by simp)).1 | exact (show zI u from hav (vI u) (by simp)).2) (by first | exact (show zI u from hav (vI u) (by simp)).1 | exact (show zI u from hav (vI u) (by simp)).2) (by exact fun h => h) ?_
                      refine Z_aload_n (n := 150) dX4_gate_149 rfl rfl ?_
                      refine Z_getA (n := 153) dX4_gate_150 rfl ffX4_19 rfl rfl ?_
                      refine Z_iconst (n := 154) dX4_gate_153 rfl (by decide) ?_
                      refine Z_iload (n := 156) dX4_gate_154 rfl rfl ?_
                      refine Z_imul (n := 157) dX4_gate_156 rfl (by omega) ?_
                      refine Z_iconst (n := 158) dX4_gate_157 rfl (by decide) ?_
                      refine Z_iadd (n := 159) dX4_gate_158 rfl (by omega) ?_
                      refine Z_iload (n := 161) dX4_gate_159 rfl rfl ?_
                      refine Z_iast (n := 162) dX4_gate_161 rfl rfl rfl (by first | decide | assumption) (by omega) (by omega) (by first | exact (show zI v from hav (vI v) (by simp)).1 | exact (show zI v from hav (vI v) (by simp)).2) (by first | exact (show zI v from hav (vI v) (by simp)).1 | exact (show zI v from hav (vI v) (by simp)).2) (by exact fun h => h) ?_
                      refine Z_aload_n (n := 163) dX4_gate_162 rfl rfl ?_
                      refine Z_getA (n := 166) dX4_gate_163 rfl ffX4_19 rfl rfl ?_
                      refine Z_iconst (n := 167) dX4_gate_166 rfl (by decide) ?_
                      refine Z_iload (n := 169) dX4_gate_167 rfl rfl ?_
                      refine Z_imul (n := 170) dX4_gate_169 rfl (by omega) ?_
                      refine Z_iconst (n := 171) dX4_gate_170 rfl (by decide) ?_
                      refine Z_iadd (n := 172) dX4_gate_171 rfl (by omega) ?_
                      refine Z_iload (n := 174) dX4_gate_172 rfl rfl ?_
                      refine Z_iast (n := 175) dX4_gate_174 rfl rfl rfl (by first | decide | assumption) (by omega) (by omega) (by first | exact (show zI w from hav (vI w) (by simp)).1 | exact (show zI w from hav (vI w) (by simp)).2) (by first | exact (show zI w from hav (vI w) (by simp)).1 | exact (show zI w from hav (vI w) (by simp)).2) (by exact fun h => h) ?_
                      refine Z_aload_n (n := 176) dX4_gate_175 rfl rfl ?_
                      refine Z_getA (n := 179) dX4_gate_176 rfl ffX4_7 rfl rfl ?_
                      refine Z_iload_n (n := 180) dX4_gate_179 rfl rfl ?_
                      refine Z_dup2 (n := 181) dX4_gate_180 rfl rfl rfl ?_
                      refine Z_iald (n := 182) dX4_gate_181 rfl rfl rfl (by first | decide | assumption) (by omega) (by omega) (fun r181 s181 => ?_)
                      try simp only [uz_oo (show (32 : Nat) ≠ 34 by decide), uz_oo (show (32 : Nat) ≠ 35 by decide), uz_s] at r181 s181 ⊢
                      refine Z_iconst (n := 183) dX4_gate_182 rfl (by decide) ?_
                      refine Z_iadd (n := 184) dX4_gate_183 rfl (by omega) ?_
                      refine Z_iast (n := 185) dX4_gate_184 rfl rfl rfl (by first | decide | assumption) (by omega) (by omega) (by first | assumption | omega | decide) (by first | assumption | omega | decide) (by exact fun h => h) ?_
                      refine Z_aload_n (n := 186) dX4_gate_185 rfl rfl ?_
                      refine Z_getA (n := 189) dX4_gate_186 rfl ffX4_7 rfl rfl ?_
                      refine Z_iload_n (n := 190) dX4_gate_189 rfl rfl ?_
                      refine Z_iald (n := 191) dX4_gate_190 rfl rfl rfl (by first | decide | assumption) (by omega) (by omega) (fun r190 s190 => ?_)
                      try simp only [uz_oo (show (32 : Nat) ≠ 34 by decide), uz_oo (show (32 : Nat) ≠ 35 by decide), uz_s] at r190 s190 ⊢
                      refine Z_iconst (n := 192) dX4_gate_191 rfl (by decide) ?_
                      refine Z_isub (n := 193) dX4_gate_192 rfl (by omega) ?_
                      refine Z_iret dX4_gate_193 rfl ?_
                      exact ⟨rfl, Or.inr (Or.inr (Or.inr ⟨by omega, by omega, by omega, by omega, by omega, Or.inr ⟨by omega, Or.inr ⟨by omega, by omega, rfl⟩⟩⟩))⟩
                    · refine Z_bipush (n := 117) dX4_gate_115 rfl (by decide) (by decide) ?_
                      refine Z_iret dX4_gate_117 rfl ?_
                      exact ⟨rfl, Or.inr (Or.inr (Or.inr ⟨by omega, by omega, by omega, by omega, by omega, Or.inr ⟨by omega, Or.inl ⟨rfl, rfl, by omega⟩⟩⟩))⟩
                  · refine Z_bipush (n := 103) dX4_gate_101 rfl (by decide) (by decide) ?_
                    refine Z_iret dX4_gate_103 rfl ?_
                    first | exact ⟨rfl, Or.inr (Or.inl ⟨by omega, by omega, by omega, rfl, rfl⟩)⟩ | exact ⟨rfl, Or.inr (Or.inr (Or.inr ⟨by omega, by omega, by omega, by omega, by omega, Or.inl ⟨by omega, by omega, rfl, rfl⟩⟩))⟩
            · refine Z_aload_n (n := 66) dX4_gate_65 rfl rfl ?_
              refine Z_iload_n (n := 67) dX4_gate_66 rfl rfl ?_
              refine Z_iload (n := 69) dX4_gate_67 rfl rfl ?_
              refine Z_callVi (n := 72) [_, _] _ dX4_gate_69 rfl cwX4_124 rfl rfl rfl (Nat.le_of_ble_eq_true rfl) (by refine ⟨?_, ?_, ?_, ?_⟩ <;> exact Nat.le_of_ble_eq_true rfl) (fun _ _ => trivial) (zX4_isGate  (by first | assumption | omega | decide) (by first | assumption | omega | decide)) ?_
              intro x69 M69 J69 z69 f69 q69
              obtain ⟨e69_1, e69_2, h69⟩ := q69
              replace e69_1 := e69_1.symm; subst e69_1
              replace e69_2 := e69_2.symm; subst e69_2
              refine Z_if_ne (n := 75) (t := 77) dX4_gate_72 rfl (by decide) (fun c72 => ?_) (fun c72 => ?_)
              · refine Z_iload_n (n := 78) dX4_gate_77 rfl rfl ?_
                refine Z_iconst (n := 79) dX4_gate_78 rfl (by decide) ?_
                refine Z_bipush (n := 81) dX4_gate_79 rfl (by decide) (by decide) ?_
                refine Z_callSi (n := 84) [_, _, _] _ dX4_gate_81 rfl cwX4_112 rfl rfl (Nat.le_of_ble_eq_true rfl) (by refine ⟨?_, ?_, ?_, ?_⟩ <;> exact Nat.le_of_ble_eq_true rfl) (fun _ _ => trivial) (zX4_in  ) ?_
                intro x81 M81 J81 z81 f81 q81
                obtain ⟨e81_1, e81_2, h81⟩ := q81
                replace e81_1 := e81_1.symm; subst e81_1
                replace e81_2 := e81_2.symm; subst e81_2
                refine Z_if_eq (n := 87) (t := 101) dX4_gate_84 rfl (by decide) (fun c84 => ?_) (fun c84 => ?_)
                · refine Z_bipush (n := 103) dX4_gate_101 rfl (by decide) (by decide) ?_
                  refine Z_iret dX4_gate_103 rfl ?_
                  first | exact ⟨rfl, Or.inr (Or.inl ⟨by omega, by omega, by omega, rfl, rfl⟩)⟩ | exact ⟨rfl, Or.inr (Or.inr (Or.inr ⟨by omega, by omega, by omega, by omega, by omega, Or.inl ⟨by omega, by omega, rfl, rfl⟩⟩))⟩
                · refine Z_iload_n (n := 88) dX4_gate_87 rfl rfl ?_
                  refine Z_if_ne (n := 91) (t := 104) dX4_gate_88 rfl (by decide) (fun c88 => ?_) (fun c88 => ?_)
                  · refine Z_aload_n (n := 105) dX4_gate_104 rfl rfl ?_
                    refine Z_getA (n := 108) dX4_gate_105 rfl ffX4_7 rfl rfl ?_
                    refine Z_iload_n (n := 109) dX4_gate_108 rfl rfl ?_
                    refine Z_iald (n := 110) dX4_gate_109 rfl rfl rfl (by first | decide | assumption) (by omega) (by omega) (fun r109 s109 => ?_)
                    try simp only [uz_oo (show (32 : Nat) ≠ 34 by decide), uz_oo (show (32 : Nat) ≠ 35 by decide), uz_s] at r109 s109 ⊢
                    refine Z_bipush (n := 112) dX4_gate_110 rfl (by decide) (by decide) ?_
                    refine Z_icmp_ne (n := 115) (t := 118) dX4_gate_112 rfl (by decide) (fun c112 => ?_) (fun c112 => ?_)
                    · refine Z_bipush (n := 120) dX4_gate_118 rfl (by decide) (by decide) ?_
                      refine Z_iload_n (n := 121) dX4_gate_120 rfl rfl ?_
                      refine Z_imul (n := 122) dX4_gate_121 rfl (by omega) ?_
                      refine Z_aload_n (n := 123) dX4_gate_122 rfl rfl ?_
                      refine Z_getA (n := 126) dX4_gate_123 rfl ffX4_7 rfl rfl ?_
                      refine Z_iload_n (n := 127) dX4_gate_126 rfl rfl ?_
                      refine Z_iald (n := 128) dX4_gate_127 rfl rfl rfl (by first | decide | assumption) (by omega) (by omega) (fun r127 s127 => ?_)
                      try simp only [uz_oo (show (32 : Nat) ≠ 34 by decide), uz_oo (show (32 : Nat) ≠ 35 by decide), uz_s] at r127 s127 ⊢
                      refine Z_iadd (n := 129) dX4_gate_128 rfl (by omega) ?_
                      refine Z_istore (L' := [_, _, _, _, _, _, _, _]) (n := 131) dX4_gate_129 rfl (by decide) rfl rfl ?_
                      refine Z_aload_n (n := 132) dX4_gate_131 rfl rfl ?_
                      refine Z_getA (n := 135) dX4_gate_132 rfl ffX4_16 rfl rfl ?_
                      refine Z_iload (n := 137) dX4_gate_135 rfl rfl ?_
                      refine Z_iload_n (n := 138) dX4_gate_137 rfl rfl ?_
                      refine Z_iast (n := 139) dX4_gate_138 rfl rfl rfl (by first | decide | assumption) (by omega) (by omega) (by first | assumption | omega | decide) (by first | assumption | omega | decide) (by exact fun h => h) ?_
                      refine Z_aload_n (n := 140) dX4_gate_139 rfl rfl ?_
                      refine Z_getA (n := 143) dX4_gate_140 rfl ffX4_19 rfl rfl ?_
                      refine Z_iconst (n := 144) dX4_gate_143 rfl (by decide) ?_
                      refine Z_iload (n := 146) dX4_gate_144 rfl rfl ?_
                      refine Z_imul (n := 147) dX4_gate_146 rfl (by omega) ?_
                      refine Z_iload_n (n := 148) dX4_gate_147 rfl rfl ?_
                      refine Z_iast (n := 149) dX4_gate_148 rfl rfl rfl (by first | decide | assumption) (by omega) (by omega) (by first | exact (show zI u from hav (vI u) (by simp)).1 | exact (show zI u from hav (vI u) (by simp)).2) (by first | exact (show zI u from hav (vI u) (by simp)).1 | exact (show zI u from hav (vI u) (by simp)).2) (by exact fun h => h) ?_
                      refine Z_aload_n (n := 150) dX4_gate_149 rfl rfl ?_
                      refine Z_getA (n := 153) dX4_gate_150 rfl ffX4_19 rfl rfl ?_
                      refine Z_iconst (n := 154) dX4_gate_153 rfl (by decide) ?_
                      refine Z_iload (n := 156) dX4_gate_154 rfl rfl ?_
                      refine Z_imul (n := 157) dX4_gate_156 rfl (by omega) ?_
                      refine Z_iconst (n := 158) dX4_gate_157 rfl (by decide) ?_
                      refine Z_iadd (n := 159) dX4_gate_158 rfl (by omega) ?_
                      refine Z_iload (n := 161) dX4_gate_159 rfl rfl ?_
                      refine Z_iast (n := 162) dX4_gate_161 rfl rfl rfl (by first | decide | assumption) (by omega) (by omega) (by first | exact (show zI v from hav (vI v) (by simp)).1 | exact (show zI v from hav (vI v) (by simp)).2) (by first | exact (show zI v from hav (vI v) (by simp)).1 | exact (show zI v from hav (vI v) (by simp)).2) (by exact fun h => h) ?_
                      refine Z_aload_n (n := 163) dX4_gate_162 rfl rfl ?_
                      refine Z_getA (n := 166) dX4_gate_163 rfl ffX4_19 rfl rfl ?_
                      refine Z_iconst (n := 167) dX4_gate_166 rfl (by decide) ?_
                      refine Z_iload (n := 169) dX4_gate_167 rfl rfl ?_
                      refine Z_imul (n := 170) dX4_gate_169 rfl (by omega) ?_
                      refine Z_iconst (n := 171) dX4_gate_170 rfl (by decide) ?_
                      refine Z_iadd (n := 172) dX4_gate_171 rfl (by omega) ?_
                      refine Z_iload (n := 174) dX4_gate_172 rfl rfl ?_
                      refine Z_iast (n := 175) dX4_gate_174 rfl rfl rfl (by first | decide | assumption) (by omega) (by omega) (by first | exact (show zI w from hav (vI w) (by simp)).1 | exact (show zI w from hav (vI w) (by simp)).2) (by first | exact (show zI w from hav (vI w) (by simp)).1 | exact (show zI w from hav (vI w) (by simp)).2) (by exact fun h => h) ?_
                      refine Z_aload_n (n := 176) dX4_gate_175 rfl rfl ?_
                      refine Z_getA (n := 179) dX4_gate_176 rfl ffX4_7 rfl rfl ?_
                      refine Z_iload_n (n := 180) dX4_gate_179 rfl rfl ?_
                      refine Z_dup2 (n := 181) dX4_gate_180 rfl rfl rfl ?_
                      refine Z_iald (n := 182) dX4_gate_181 rfl rfl rfl (by first | decide | assumption) (by omega) (by omega) (fun r181 s181 => ?_)
                      try simp only [uz_oo (show (32 : Nat) ≠ 34 by decide), uz_oo (show (32 : Nat) ≠ 35 by decide), uz_s] at r181 s181 ⊢
                      refine Z_iconst (n := 183) dX4_gate_182 rfl (by decide) ?_
                      refine Z_iadd (n := 184) dX4_gate_183 rfl (by omega) ?_
                      refine Z_iast (n := 185) dX4_gate_184 rfl rfl rfl (by first | decide | assumption) (by omega) (by omega) (by first | assumption | omega | decide) (by first | assumption | omega | decide) (by exact fun h => h) ?_
                      refine Z_aload_n (n := 186) dX4_gate_185 rfl rfl ?_
                      refine Z_getA (n := 189) dX4_gate_186 rfl ffX4_7 rfl rfl ?_
                      refine Z_iload_n (n := 190) dX4_gate_189 rfl rfl ?_
                      refine Z_iald (n := 191) dX4_gate_190 rfl rfl rfl (by first | decide | assumption) (by omega) (by omega) (fun r190 s190 => ?_)
                      try simp only [uz_oo (show (32 : Nat) ≠ 34 by decide), uz_oo (show (32 : Nat) ≠ 35 by decide), uz_s] at r190 s190 ⊢
                      refine Z_iconst (n := 192) dX4_gate_191 rfl (by decide) ?_
                      refine Z_isub (n := 193) dX4_gate_192 rfl (by omega) ?_
                      refine Z_iret dX4_gate_193 rfl ?_
                      exact ⟨rfl, Or.inr (Or.inr (Or.inr ⟨by omega, by omega, by omega, by omega, by omega, Or.inr ⟨by omega, Or.inr ⟨by omega, by omega, rfl⟩⟩⟩))⟩
                    · refine Z_bipush (n := 117) dX4_gate_115 rfl (by decide) (by decide) ?_
                      refine Z_iret dX4_gate_117 rfl ?_
                      exact ⟨rfl, Or.inr (Or.inr (Or.inr ⟨by omega, by omega, by omega, by omega, by omega, Or.inr ⟨by omega, Or.inl ⟨rfl, rfl, by omega⟩⟩⟩))⟩
                  · refine Z_iload_n (n := 92) dX4_gate_91 rfl rfl ?_
                    refine Z_iconst (n := 93) dX4_gate_92 rfl (by decide) ?_
                    refine Z_bipush (n := 95) dX4_gate_93 rfl (by decide) (by decide) ?_
                    refine Z_callSi (n := 98) [_, _, _] _ dX4_gate_95 rfl cwX4_112 rfl rfl (Nat.le_of_ble_eq_true rfl) (by refine ⟨?_, ?_, ?_, ?_⟩ <;> exact Nat.le_of_ble_eq_true rfl) (fun _ _ => trivial) (zX4_in  ) ?_
                    intro x95 M95 J95 z95 f95 q95
                    obtain ⟨e95_1, e95_2, h95⟩ := q95
                    replace e95_1 := e95_1.symm; subst e95_1
                    replace e95_2 := e95_2.symm; subst e95_2
                    refine Z_if_ne (n := 101) (t := 104) dX4_gate_98 rfl (by decide) (fun c98 => ?_) (fun c98 => ?_)
                    · refine Z_aload_n (n := 105) dX4_gate_104 rfl rfl ?_
                      refine Z_getA (n := 108) dX4_gate_105 rfl ffX4_7 rfl rfl ?_
                      refine Z_iload_n (n := 109) dX4_gate_108 rfl rfl ?_
                      refine Z_iald (n := 110) dX4_gate_109 rfl rfl rfl (by first | decide | assumption) (by omega) (by omega) (fun r109 s109 => ?_)
                      try simp only [uz_oo (show (32 : Nat) ≠ 34 by decide), uz_oo (show (32 : Nat) ≠ 35 by decide), uz_s] at r109 s109 ⊢
                      refine Z_bipush (n := 112) dX4_gate_110 rfl (by decide) (by decide) ?_
                      refine Z_icmp_ne (n := 115) (t := 118) dX4_gate_112 rfl (by decide) (fun c112 => ?_) (fun c112 => ?_)
                      · refine Z_bipush (n := 120) dX4_gate_118 rfl (by decide) (by decide) ?_
                        refine Z_iload_n (n := 121) dX4_gate_120 rfl rfl ?_
                        refine Z_imul (n := 122) dX4_gate_121 rfl (by omega) ?_
                        refine Z_aload_n (n := 123) dX4_gate_122 rfl rfl ?_
                        refine Z_getA (n := 126) dX4_gate_123 rfl ffX4_7 rfl rfl ?_
                        refine Z_iload_n (n := 127) dX4_gate_126 rfl rfl ?_
                        refine Z_iald (n := 128) dX4_gate_127 rfl rfl rfl (by first | decide | assumption) (by omega) (by omega) (fun r127 s127 => ?_)
                        try simp only [uz_oo (show (32 : Nat) ≠ 34 by decide), uz_oo (show (32 : Nat) ≠ 35 by decide), uz_s] at r127 s127 ⊢
                        refine Z_iadd (n := 129) dX4_gate_128 rfl (by omega) ?_
                        refine Z_istore (L' := [_, _, _, _, _, _, _, _]) (n := 131) dX4_gate_129 rfl (by decide) rfl rfl ?_
                        refine Z_aload_n (n := 132) dX4_gate_131 rfl rfl ?_
                        refine Z_getA (n := 135) dX4_gate_132 rfl ffX4_16 rfl rfl ?_
                        refine Z_iload (n := 137) dX4_gate_135 rfl rfl ?_
                        refine Z_iload_n (n := 138) dX4_gate_137 rfl rfl ?_
                        refine Z_iast (n := 139) dX4_gate_138 rfl rfl rfl (by first | decide | assumption) (by omega) (by omega) (by first | assumption | omega | decide) (by first | assumption | omega | decide) (by exact fun h => h) ?_
                        refine Z_aload_n (n := 140) dX4_gate_139 rfl rfl ?_
                        refine Z_getA (n := 143) dX4_gate_140 rfl ffX4_19 rfl rfl ?_
                        refine Z_iconst (n := 144) dX4_gate_143 rfl (by decide) ?_
                        refine Z_iload (n := 146) dX4_gate_144 rfl rfl ?_
                        refine Z_imul (n := 147) dX4_gate_146 rfl (by omega) ?_
                        refine Z_iload_n (n := 148) dX4_gate_147 rfl rfl ?_
                        refine Z_iast (n := 149) dX4_gate_148 rfl rfl rfl (by first | decide | assumption) (by omega) (by omega) (by first | exact (show zI u from hav (vI u) (by simp)).1 | exact (show zI u from hav (vI u) (by simp)).2) (by first | exact (show zI u from hav (vI u) (by simp)).1 | exact (show zI u from hav (vI u) (by simp)).2) (by exact fun h => h) ?_
                        refine Z_aload_n (n := 150) dX4_gate_149 rfl rfl ?_
                        refine Z_getA (n := 153) dX4_gate_150 rfl ffX4_19 rfl rfl ?_
                        refine Z_iconst (n := 154) dX4_gate_153 rfl (by decide) ?_
                        refine Z_iload (n := 156) dX4_gate_154 rfl rfl ?_
                        refine Z_imul (n := 157) dX4_gate_156 rfl (by omega) ?_
                        refine Z_iconst (n := 158) dX4_gate_157 rfl (by decide) ?_
                        refine Z_iadd (n := 159) dX4_gate_158 rfl (by omega) ?_
                        refine Z_iload (n := 161) dX4_gate_159 rfl rfl ?_
                        refine Z_iast (n := 162) dX4_gate_161 rfl rfl rfl (by first | decide | assumption) (by omega) (by omega) (by first | exact (show zI v from hav (vI v) (by simp)).1 | exact (show zI v from hav (vI v) (by simp)).2) (by first | exact (show zI v from hav (vI v) (by simp)).1 | exact (show zI v from hav (vI v) (by simp)).2) (by exact fun h => h) ?_
                        refine Z_aload_n (n := 163) dX4_gate_162 rfl rfl ?_
                        refine Z_getA (n := 166) dX4_gate_163 rfl ffX4_19 rfl rfl ?_
                        refine Z_iconst (n := 167) dX4_gate_166 rfl (by decide) ?_
                        refine Z_iload (n := 169) dX4_gate_167 rfl rfl ?_
                        refine Z_imul (n := 170) dX4_gate_169 rfl (by omega) ?_
                        refine Z_iconst (n := 171) dX4_gate_170 rfl (by decide) ?_
                        refine Z_iadd (n := 172) dX4_gate_171 rfl (by omega) ?_
                        refine Z_iload (n := 174) dX4_gate_172 rfl rfl ?_
                        refine Z_iast (n := 175) dX4_gate_174 rfl rfl rfl (by first | decide | assumption) (by omega) (by omega) (by first | exact (show zI w from hav (vI w) (by simp)).1 | exact (show zI w from hav (vI w) (by simp)).2) (by first | exact (show zI w from hav (vI w) (by simp)).1 | exact (show zI w from hav (vI w) (by simp)).2) (by exact fun h => h) ?_
                        refine Z_aload_n (n := 176) dX4_gate_175 rfl rfl ?_
                        refine Z_getA (n := 179) dX4_gate_176 rfl ffX4_7 rfl rfl ?_
                        refine Z_iload_n (n := 180) dX4_gate_179 rfl rfl ?_
                        refine Z_dup2 (n := 181) dX4_gate_180 rfl rfl rfl ?_
                        refine Z_iald (n := 182) dX4_gate_181 rfl rfl rfl (by first | decide | assumption) (by omega) (by omega) (fun r181 s181 => ?_)
                        try simp only [uz_oo (show (32 : Nat) ≠ 34 by decide), uz_oo (show (32 : Nat) ≠ 35 by decide), uz_s] at r181 s181 ⊢
                        refine Z_iconst (n := 183) dX4_gate_182 rfl (by decide) ?_
                        refine Z_iadd (n := 184) dX4_gate_183 rfl (by omega) ?_
                        refine Z_iast (n := 185) dX4_gate_184 rfl rfl rfl (by first | decide | assumption) (by omega) (by omega) (by first | assumption | omega | decide) (by first | assumption | omega | decide) (by exact fun h => h) ?_
                        refine Z_aload_n (n := 186) dX4_gate_185 rfl rfl ?_
                        refine Z_getA (n := 189) dX4_gate_186 rfl ffX4_7 rfl rfl ?_
                        refine Z_iload_n (n := 190) dX4_gate_189 rfl rfl ?_
                        refine Z_iald (n := 191) dX4_gate_190 rfl rfl rfl (by first | decide | assumption) (by omega) (by omega) (fun r190 s190 => ?_)
                        try simp only [uz_oo (show (32 : Nat) ≠ 34 by decide), uz_oo (show (32 : Nat) ≠ 35 by decide), uz_s] at r190 s190 ⊢
                        refine Z_iconst (n := 192) dX4_gate_191 rfl (by decide) ?_
                        refine Z_isub (n := 193) dX4_gate_192 rfl (by omega) ?_
                        refine Z_iret dX4_gate_193 rfl ?_
                        exact ⟨rfl, Or.inr (Or.inr (Or.inr ⟨by omega, by omega, by omega, by omega, by omega, Or.inr ⟨by omega, Or.inr ⟨by omega, by omega, rfl⟩⟩⟩))⟩
                      · refine Z_bipush (n := 117) dX4_gate_115 rfl (by decide) (by decide) ?_
                        refine Z_iret dX4_gate_117 rfl ?_
                        exact ⟨rfl, Or.inr (Or.inr (Or.inr ⟨by omega, by omega, by omega, by omega, by omega, Or.inr ⟨by omega, Or.inl ⟨rfl, rfl, by omega⟩⟩⟩))⟩
                    · refine Z_bipush (n := 103) dX4_gate_101 rfl (by decide) (by decide) ?_
                      refine Z_iret dX4_gate_103 rfl ?_
                      first | exact ⟨rfl, Or.inr (Or.inl ⟨by omega, by omega, by omega, rfl, rfl⟩)⟩ | exact ⟨rfl, Or.inr (Or.inr (Or.inr ⟨by omega, by omega, by omega, by omega, by omega, Or.inl ⟨by omega, by omega, rfl, rfl⟩⟩))⟩
              · refine Z_iconst (n := 76) dX4_gate_75 rfl (by decide) ?_
                refine Z_iret dX4_gate_76 rfl ?_
                exact ⟨rfl, Or.inr (Or.inr (Or.inl ⟨by omega, by omega, by omega, by omega, by omega, rfl, rfl⟩))⟩
          · refine Z_aload_n (n := 50) dX4_gate_49 rfl rfl ?_
            refine Z_iload_n (n := 51) dX4_gate_50 rfl rfl ?_
            refine Z_iload (n := 53) dX4_gate_51 rfl rfl ?_
            refine Z_callVi (n := 56) [_, _] _ dX4_gate_53 rfl cwX4_124 rfl rfl rfl (Nat.le_of_ble_eq_true rfl) (by refine ⟨?_, ?_, ?_, ?_⟩ <;> exact Nat.le_of_ble_eq_true rfl) (fun _ _ => trivial) (zX4_isGate  (by first | assumption | omega | decide) (by first | assumption | omega | decide)) ?_
            intro x53 M53 J53 z53 f53 q53
            obtain ⟨e53_1, e53_2, h53⟩ := q53
            replace e53_1 := e53_1.symm; subst e53_1
            replace e53_2 := e53_2.symm; subst e53_2
            refine Z_if_eq (n := 59) (t := 75) dX4_gate_56 rfl (by decide) (fun c56 => ?_) (fun c56 => ?_)
            · refine Z_iconst (n := 76) dX4_gate_75 rfl (by decide) ?_
              refine Z_iret dX4_gate_76 rfl ?_
              exact ⟨rfl, Or.inr (Or.inr (Or.inl ⟨by omega, by omega, by omega, by omega, by omega, rfl, rfl⟩))⟩
            · refine Z_iload (n := 61) dX4_gate_59 rfl rfl ?_
              refine Z_iconst (n := 62) dX4_gate_61 rfl (by decide) ?_
              refine Z_icmp_le (n := 65) (t := 77) dX4_gate_62 rfl (by decide) (fun c62 => ?_) (fun c62 => ?_)
              · refine Z_iload_n (n := 78) dX4_gate_77 rfl rfl ?_
                refine Z_iconst (n := 79) dX4_gate_78 rfl (by decide) ?_
                refine Z_bipush (n := 81) dX4_gate_79 rfl (by decide) (by decide) ?_
                refine Z_callSi (n := 84) [_, _, _] _ dX4_gate_81 rfl cwX4_112 rfl rfl (Nat.le_of_ble_eq_true rfl) (by refine ⟨?_, ?_, ?_, ?_⟩ <;> exact Nat.le_of_ble_eq_true rfl) (fun _ _ => trivial) (zX4_in  ) ?_
                intro x81 M81 J81 z81 f81 q81
                obtain ⟨e81_1, e81_2, h81⟩ := q81
                replace e81_1 := e81_1.symm; subst e81_1
                replace e81_2 := e81_2.symm; subst e81_2
                refine Z_if_eq (n := 87) (t := 101) dX4_gate_84 rfl (by decide) (fun c84 => ?_) (fun c84 => ?_)
                · refine Z_bipush (n := 103) dX4_gate_101 rfl (by decide) (by decide) ?_
                  refine Z_iret dX4_gate_103 rfl ?_
                  first | exact ⟨rfl, Or.inr (Or.inl ⟨by omega, by omega, by omega, rfl, rfl⟩)⟩ | exact ⟨rfl, Or.inr (Or.inr (Or.inr ⟨by omega, by omega, by omega, by omega, by omega, Or.inl ⟨by omega, by omega, rfl, rfl⟩⟩))⟩
                · refine Z_iload_n (n := 88) dX4_gate_87 rfl rfl ?_
                  refine Z_if_ne (n := 91) (t := 104) dX4_gate_88 rfl (by decide) (fun c88 => ?_) (fun c88 => ?_)
                  · refine Z_aload_n (n := 105) dX4_gate_104 rfl rfl ?_
                    refine Z_getA (n := 108) dX4_gate_105 rfl ffX4_7 rfl rfl ?_
                    refine Z_iload_n (n := 109) dX4_gate_108 rfl rfl ?_
                    refine Z_iald (n := 110) dX4_gate_109 rfl rfl rfl (by first | decide | assumption) (by omega) (by omega) (fun r109 s109 => ?_)
                    try simp only [uz_oo (show (32 : Nat) ≠ 34 by decide), uz_oo (show (32 : Nat) ≠ 35 by decide), uz_s] at r109 s109 ⊢
                    refine Z_bipush (n := 112) dX4_gate_110 rfl (by decide) (by decide) ?_
                    refine Z_icmp_ne (n := 115) (t := 118) dX4_gate_112 rfl (by decide) (fun c112 => ?_) (fun c112 => ?_)
                    · refine Z_bipush (n := 120) dX4_gate_118 rfl (by decide) (by decide) ?_
                      refine Z_iload_n (n := 121) dX4_gate_120 rfl rfl ?_
                      refine Z_imul (n := 122) dX4_gate_121 rfl (by omega) ?_
                      refine Z_aload_n (n := 123) dX4_gate_122 rfl rfl ?_
                      refine Z_getA (n := 126) dX4_gate_123 rfl ffX4_7 rfl rfl ?_
                      refine Z_iload_n (n := 127) dX4_gate_126 rfl rfl ?_
                      refine Z_iald (n := 128) dX4_gate_127 rfl rfl rfl (by first | decide | assumption) (by omega) (by omega) (fun r127 s127 => ?_)
                      try simp only [uz_oo (show (32 : Nat) ≠ 34 by decide), uz_oo (show (32 : Nat) ≠ 35 by decide), uz_s] at r127 s127 ⊢
                      refine Z_iadd (n := 129) dX4_gate_128 rfl (by omega) ?_
                      refine Z_istore (L' := [_, _, _, _, _, _, _, _]) (n := 131) dX4_gate_129 rfl (by decide) rfl rfl ?_
                      refine Z_aload_n (n := 132) dX4_gate_131 rfl rfl ?_
                      refine Z_getA (n := 135) dX4_gate_132 rfl ffX4_16 rfl rfl ?_
                      refine Z_iload (n := 137) dX4_gate_135 rfl rfl ?_
                      refine Z_iload_n (n := 138) dX4_gate_137 rfl rfl ?_
                      refine Z_iast (n := 139) dX4_gate_138 rfl rfl rfl (by first | decide | assumption) (by omega) (by omega) (by first | assumption | omega | decide) (by first | assumption | omega | decide) (by exact fun h => h) ?_
                      refine Z_aload_n (n := 140) dX4_gate_139 rfl rfl ?_
                      refine Z_getA (n := 143) dX4_gate_140 rfl ffX4_19 rfl rfl ?_
                      refine Z_iconst (n := 144) dX4_gate_143 rfl (by decide) ?_
                      refine Z_iload (n := 146) dX4_gate_144 rfl rfl ?_
                      refine Z_imul (n := 147) dX4_gate_146 rfl (by omega) ?_
                      refine Z_iload_n (n := 148) dX4_gate_147 rfl rfl ?_
                      refine Z_iast (n := 149) dX4_gate_148 rfl rfl rfl (by first | decide | assumption) (by omega) (by omega) (by first | exact (show zI u from hav (vI u) (by simp)).1 | exact (show zI u from hav (vI u) (by simp)).2) (by first | exact (show zI u from hav (vI u) (by simp)).1 | exact (show zI u from hav (vI u) (by simp)).2) (by exact fun h => h) ?_
                      refine Z_aload_n (n := 150) dX4_gate_149 rfl rfl ?_
                      refine Z_getA (n := 153) dX4_gate_150 rfl ffX4_19 rfl rfl ?_
                      refine Z_iconst (n := 154) dX4_gate_153 rfl (by decide) ?_
                      refine Z_iload (n := 156) dX4_gate_154 rfl rfl ?_
                      refine Z_imul (n := 157) dX4_gate_156 rfl (by omega) ?_
                      refine Z_iconst (n := 158) dX4_gate_157 rfl (by decide) ?_
                      refine Z_iadd (n := 159) dX4_gate_158 rfl (by omega) ?_
                      refine Z_iload (n := 161) dX4_gate_159 rfl rfl ?_
                      refine Z_iast (n := 162) dX4_gate_161 rfl rfl rfl (by first | decide | assumption) (by omega) (by omega) (by first | exact (show zI v from hav (vI v) (by simp)).1 | exact (show zI v from hav (vI v) (by simp)).2) (by first | exact (show zI v from hav (vI v) (by simp)).1 | exact (show zI v from hav (vI v) (by simp)).2) (by exact fun h => h) ?_
                      refine Z_aload_n (n := 163) dX4_gate_162 rfl rfl ?_
                      refine Z_getA (n := 166) dX4_gate_163 rfl ffX4_19 rfl rfl ?_
                      refine Z_iconst (n := 167) dX4_gate_166 rfl (by decide) ?_
                      refine Z_iload (n := 169) dX4_gate_167 rfl rfl ?_
                      refine Z_imul (n := 170) dX4_gate_169 rfl (by omega) ?_
                      refine Z_iconst (n := 171) dX4_gate_170 rfl (by decide) ?_
                      refine Z_iadd (n := 172) dX4_gate_171 rfl (by omega) ?_
                      refine Z_iload (n := 174) dX4_gate_172 rfl rfl ?_
                      refine Z_iast (n := 175) dX4_gate_174 rfl rfl rfl (by first | decide | assumption) (by omega) (by omega) (by first | exact (show zI w from hav (vI w) (by simp)).1 | exact (show zI w from hav (vI w) (by simp)).2) (by first | exact (show zI w from hav (vI w) (by simp)).1 | exact (show zI w from hav (vI w) (by simp)).2) (by exact fun h => h) ?_
                      refine Z_aload_n (n := 176) dX4_gate_175 rfl rfl ?_
                      refine Z_getA (n := 179) dX4_gate_176 rfl ffX4_7 rfl rfl ?_
                      refine Z_iload_n (n := 180) dX4_gate_179 rfl rfl ?_
                      refine Z_dup2 (n := 181) dX4_gate_180 rfl rfl rfl ?_
                      refine Z_iald (n := 182) dX4_gate_181 rfl rfl rfl (by first | decide | assumption) (by omega) (by omega) (fun r181 s181 => ?_)
                      try simp only [uz_oo (show (32 : Nat) ≠ 34 by decide), uz_oo (show (32 : Nat) ≠ 35 by decide), uz_s] at r181 s181 ⊢
                      refine Z_iconst (n := 183) dX4_gate_182 rfl (by decide) ?_
                      refine Z_iadd (n := 184) dX4_gate_183 rfl (by omega) ?_
                      refine Z_iast (n := 185) dX4_gate_184 rfl rfl rfl (by first | decide | assumption) (by omega) (by omega) (by first | assumption | omega | decide) (by first | assumption | omega | decide) (by exact fun h => h) ?_
                      refine Z_aload_n (n := 186) dX4_gate_185 rfl rfl ?_
                      refine Z_getA (n := 189) dX4_gate_186 rfl ffX4_7 rfl rfl ?_
                      refine Z_iload_n (n := 190) dX4_gate_189 rfl rfl ?_
                      refine Z_iald (n := 191) dX4_gate_190 rfl rfl rfl (by first | decide | assumption) (by omega) (by omega) (fun r190 s190 => ?_)
                      try simp only [uz_oo (show (32 : Nat) ≠ 34 by decide), uz_oo (show (32 : Nat) ≠ 35 by decide), uz_s] at r190 s190 ⊢
                      refine Z_iconst (n := 192) dX4_gate_191 rfl (by decide) ?_
                      refine Z_isub (n := 193) dX4_gate_192 rfl (by omega) ?_
                      refine Z_iret dX4_gate_193 rfl ?_
                      exact ⟨rfl, Or.inr (Or.inr (Or.inr ⟨by omega, by omega, by omega, by omega, by omega, Or.inr ⟨by omega, Or.inr ⟨by omega, by omega, rfl⟩⟩⟩))⟩
                    · refine Z_bipush (n := 117) dX4_gate_115 rfl (by decide) (by decide) ?_
                      refine Z_iret dX4_gate_117 rfl ?_
                      exact ⟨rfl, Or.inr (Or.inr (Or.inr ⟨by omega, by omega, by omega, by omega, by omega, Or.inr ⟨by omega, Or.inl ⟨rfl, rfl, by omega⟩⟩⟩))⟩
                  · refine Z_iload_n (n := 92) dX4_gate_91 rfl rfl ?_
                    refine Z_iconst (n := 93) dX4_gate_92 rfl (by decide) ?_
                    refine Z_bipush (n := 95) dX4_gate_93 rfl (by decide) (by decide) ?_
                    refine Z_callSi (n := 98) [_, _, _] _ dX4_gate_95 rfl cwX4_112 rfl rfl (Nat.le_of_ble_eq_true rfl) (by refine ⟨?_, ?_, ?_, ?_⟩ <;> exact Nat.le_of_ble_eq_true rfl) (fun _ _ => trivial) (zX4_in  ) ?_
                    intro x95 M95 J95 z95 f95 q95
                    obtain ⟨e95_1, e95_2, h95⟩ := q95
                    replace e95_1 := e95_1.symm; subst e95_1
                    replace e95_2 := e95_2.symm; subst e95_2
                    refine Z_if_ne (n := 101) (t := 104) dX4_gate_98 rfl (by decide) (fun c98 => ?_) (fun c98 => ?_)
                    · refine Z_aload_n (n := 105) dX4_gate_104 rfl rfl ?_
                      refine Z_getA (n := 108) dX4_gate_105 rfl ffX4_7 rfl rfl ?_
                      refine Z_iload_n (n := 109) dX4_gate_108 rfl rfl ?_
                      refine Z_iald (n := 110) dX4_gate_109 rfl rfl rfl (by first | decide | assumption) (by omega) (by omega) (fun r109 s109 => ?_)
                      try simp only [uz_oo (show (32 : Nat) ≠ 34 by decide), uz_oo (show (32 : Nat) ≠ 35 by decide), uz_s] at r109 s109 ⊢
                      refine Z_bipush (n := 112) dX4_gate_110 rfl (by decide) (by decide) ?_
                      refine Z_icmp_ne (n := 115) (t := 118) dX4_gate_112 rfl (by decide) (fun c112 => ?_) (fun c112 => ?_)
                      · refine Z_bipush (n := 120) dX4_gate_118 rfl (by decide) (by decide) ?_
                        refine Z_iload_n (n := 121) dX4_gate_120 rfl rfl ?_
                        refine Z_imul (n := 122) dX4_gate_121 rfl (by omega) ?_
                        refine Z_aload_n (n := 123) dX4_gate_122 rfl rfl ?_
                        refine Z_getA (n := 126) dX4_gate_123 rfl ffX4_7 rfl rfl ?_
                        refine Z_iload_n (n := 127) dX4_gate_126 rfl rfl ?_
                        refine Z_iald (n := 128) dX4_gate_127 rfl rfl rfl (by first | decide | assumption) (by omega) (by omega) (fun r127 s127 => ?_)
                        try simp only [uz_oo (show (32 : Nat) ≠ 34 by decide), uz_oo (show (32 : Nat) ≠ 35 by decide), uz_s] at r127 s127 ⊢
                        refine Z_iadd (n := 129) dX4_gate_128 rfl (by omega) ?_
                        refine Z_istore (L' := [_, _, _, _, _, _, _, _]) (n := 131) dX4_gate_129 rfl (by decide) rfl rfl ?_
                        refine Z_aload_n (n := 132) dX4_gate_131 rfl rfl ?_
                        refine Z_getA (n := 135) dX4_gate_132 rfl ffX4_16 rfl rfl ?_
                        refine Z_iload (n := 137) dX4_gate_135 rfl rfl ?_
                        refine Z_iload_n (n := 138) dX4_gate_137 rfl rfl ?_
                        refine Z_iast (n := 139) dX4_gate_138 rfl rfl rfl (by first | decide | assumption) (by omega) (by omega) (by first | assumption | omega | decide) (by first | assumption | omega | decide) (by exact fun h => h) ?_
                        refine Z_aload_n (n := 140) dX4_gate_139 rfl rfl ?_
                        refine Z_getA (n := 143) dX4_gate_140 rfl ffX4_19 rfl rfl ?_
                        refine Z_iconst (n := 144) dX4_gate_143 rfl (by decide) ?_
                        refine Z_iload (n := 146) dX4_gate_144 rfl rfl ?_
                        refine Z_imul (n := 147) dX4_gate_146 rfl (by omega) ?_
                        refine Z_iload_n (n := 148) dX4_gate_147 rfl rfl ?_
                        refine Z_iast (n := 149) dX4_gate_148 rfl rfl rfl (by first | decide | assumption) (by omega) (by omega) (by first | exact (show zI u from hav (vI u) (by simp)).1 | exact (show zI u from hav (vI u) (by simp)).2) (by first | exact (show zI u from hav (vI u) (by simp)).1 | exact (show zI u from hav (vI u) (by simp)).2) (by exact fun h => h) ?_
                        refine Z_aload_n (n := 150) dX4_gate_149 rfl rfl ?_
                        refine Z_getA (n := 153) dX4_gate_150 rfl ffX4_19 rfl rfl ?_
                        refine Z_iconst (n := 154) dX4_gate_153 rfl (by decide) ?_
                        refine Z_iload (n := 156) dX4_gate_154 rfl rfl ?_
                        refine Z_imul (n := 157) dX4_gate_156 rfl (by omega) ?_
                        refine Z_iconst (n := 158) dX4_gate_157 rfl (by decide) ?_
                        refine Z_iadd (n := 159) dX4_gate_158 rfl (by omega) ?_
                        refine Z_iload (n := 161) dX4_gate_159 rfl rfl ?_
                        refine Z_iast (n := 162) dX4_gate_161 rfl rfl rfl (by first | decide | assumption) (by omega) (by omega) (by first | exact (show zI v from hav (vI v) (by simp)).1 | exact (show zI v from hav (vI v) (by simp)).2) (by first | exact (show zI v from hav (vI v) (by simp)).1 | exact (show zI v from hav (vI v) (by simp)).2) (by exact fun h => h) ?_
                        refine Z_aload_n (n := 163) dX4_gate_162 rfl rfl ?_
                        refine Z_getA (n := 166) dX4_gate_163 rfl ffX4_19 rfl rfl ?_
                        refine Z_iconst (n := 167) dX4_gate_166 rfl (by decide) ?_
                        refine Z_iload (n := 169) dX4_gate_167 rfl rfl ?_
                        refine Z_imul (n := 170) dX4_gate_169 rfl (by omega) ?_
                        refine Z_iconst (n := 171) dX4_gate_170 rfl (by decide) ?_
                        refine Z_iadd (n := 172) dX4_gate_171 rfl (by omega) ?_
                        refine Z_iload (n := 174) dX4_gate_172 rfl rfl ?_
                        refine Z_iast (n := 175) dX4_gate_174 rfl rfl rfl (by first | decide | assumption) (by omega) (by omega) (by first | exact (show zI w from hav (vI w) (by simp)).1 | exact (show zI w from hav (vI w) (by simp)).2) (by first | exact (show zI w from hav (vI w) (by simp)).1 | exact (show zI w from hav (vI w) (by simp)).2) (by exact fun h => h) ?_
                        refine Z_aload_n (n := 176) dX4_gate_175 rfl rfl ?_
                        refine Z_getA (n := 179) dX4_gate_176 rfl ffX4_7 rfl rfl ?_
                        refine Z_iload_n (n := 180) dX4_gate_179 rfl rfl ?_
                        refine Z_dup2 (n := 181) dX4_gate_180 rfl rfl rfl ?_
                        refine Z_iald (n := 182) dX4_gate_181 rfl rfl rfl (by first | decide | assumption) (by omega) (by omega) (fun r181 s181 => ?_)
                        try simp only [uz_oo (show (32 : Nat) ≠ 34 by decide), uz_oo (show (32 : Nat) ≠ 35 by decide), uz_s] at r181 s181 ⊢
                        refine Z_iconst (n := 183) dX4_gate_182 rfl (by decide) ?_
                        refine Z_iadd (n := 184) dX4_gate_183 rfl (by omega) ?_
                        refine Z_iast (n := 185) dX4_gate_184 rfl rfl rfl (by first | decide | assumption) (by omega) (by omega) (by first | assumption | omega | decide) (by first | assumption | omega | decide) (by exact fun h => h) ?_
                        refine Z_aload_n (n := 186) dX4_gate_185 rfl rfl ?_
                        refine Z_getA (n := 189) dX4_gate_186 rfl ffX4_7 rfl rfl ?_
                        refine Z_iload_n (n := 190) dX4_gate_189 rfl rfl ?_
                        refine Z_iald (n := 191) dX4_gate_190 rfl rfl rfl (by first | decide | assumption) (by omega) (by omega) (fun r190 s190 => ?_)
                        try simp only [uz_oo (show (32 : Nat) ≠ 34 by decide), uz_oo (show (32 : Nat) ≠ 35 by decide), uz_s] at r190 s190 ⊢
                        refine Z_iconst (n := 192) dX4_gate_191 rfl (by decide) ?_
                        refine Z_isub (n := 193) dX4_gate_192 rfl (by omega) ?_
                        refine Z_iret dX4_gate_193 rfl ?_
                        exact ⟨rfl, Or.inr (Or.inr (Or.inr ⟨by omega, by omega, by omega, by omega, by omega, Or.inr ⟨by omega, Or.inr ⟨by omega, by omega, rfl⟩⟩⟩))⟩
                      · refine Z_bipush (n := 117) dX4_gate_115 rfl (by decide) (by decide) ?_
                        refine Z_iret dX4_gate_117 rfl ?_
                        exact ⟨rfl, Or.inr (Or.inr (Or.inr ⟨by omega, by omega, by omega, by omega, by omega, Or.inr ⟨by omega, Or.inl ⟨rfl, rfl, by omega⟩⟩⟩))⟩
                    · refine Z_bipush (n := 103) dX4_gate_101 rfl (by decide) (by decide) ?_
                      refine Z_iret dX4_gate_103 rfl ?_
                      first | exact ⟨rfl, Or.inr (Or.inl ⟨by omega, by omega, by omega, rfl, rfl⟩)⟩ | exact ⟨rfl, Or.inr (Or.inr (Or.inr ⟨by omega, by omega, by omega, by omega, by omega, Or.inl ⟨by omega, by omega, rfl, rfl⟩⟩))⟩
              · refine Z_aload_n (n := 66) dX4_gate_65 rfl rfl ?_
                refine Z_iload_n (n := 67) dX4_gate_66 rfl rfl ?_
                refine Z_iload (n := 69) dX4_gate_67 rfl rfl ?_
                refine Z_callVi (n := 72) [_, _] _ dX4_gate_69 rfl cwX4_124 rfl rfl rfl (Nat.le_of_ble_eq_true rfl) (by refine ⟨?_, ?_, ?_, ?_⟩ <;> exact Nat.le_of_ble_eq_true rfl) (fun _ _ => trivial) (zX4_isGate  (by first | assumption | omega | decide) (by first | assumption | omega | decide)) ?_
                intro x69 M69 J69 z69 f69 q69
                obtain ⟨e69_1, e69_2, h69⟩ := q69
                replace e69_1 := e69_1.symm; subst e69_1
                replace e69_2 := e69_2.symm; subst e69_2
                refine Z_if_ne (n := 75) (t := 77) dX4_gate_72 rfl (by decide) (fun c72 => ?_) (fun c72 => ?_)
                · refine Z_iload_n (n := 78) dX4_gate_77 rfl rfl ?_
                  refine Z_iconst (n := 79) dX4_gate_78 rfl (by decide) ?_
                  refine Z_bipush (n := 81) dX4_gate_79 rfl (by decide) (by decide) ?_
                  refine Z_callSi (n := 84) [_, _, _] _ dX4_gate_81 rfl cwX4_112 rfl rfl (Nat.le_of_ble_eq_true rfl) (by refine ⟨?_, ?_, ?_, ?_⟩ <;> exact Nat.le_of_ble_eq_true rfl) (fun _ _ => trivial) (zX4_in  ) ?_
                  intro x81 M81 J81 z81 f81 q81
                  obtain ⟨e81_1, e81_2, h81⟩ := q81
                  replace e81_1 := e81_1.symm; subst e81_1
                  replace e81_2 := e81_2.symm; subst e81_2
                  refine Z_if_eq (n := 87) (t := 101) dX4_gate_84 rfl (by decide) (fun c84 => ?_) (fun c84 => ?_)
                  · refine Z_bipush (n := 103) dX4_gate_101 rfl (by decide) (by decide) ?_
                    refine Z_iret dX4_gate_103 rfl ?_
                    first | exact ⟨rfl, Or.inr (Or.inl ⟨by omega, by omega, by omega, rfl, rfl⟩)⟩ | exact ⟨rfl, Or.inr (Or.inr (Or.inr ⟨by omega, by omega, by omega, by omega, by omega, Or.inl ⟨by omega, by omega, rfl, rfl⟩⟩))⟩
                  · refine Z_iload_n (n := 88) dX4_gate_87 rfl rfl ?_
                    refine Z_if_ne (n := 91) (t := 104) dX4_gate_88 rfl (by decide) (fun c88 => ?_) (fun c88 => ?_)
                    · refine Z_aload_n (n := 105) dX4_gate_104 rfl rfl ?_
                      refine Z_getA (n := 108) dX4_gate_105 rfl ffX4_7 rfl rfl ?_
                      refine Z_iload_n (n := 109) dX4_gate_108 rfl rfl ?_
                      refine Z_iald (n := 110) dX4_gate_109 rfl rfl rfl (by first | decide | assumption) (by omega) (by omega) (fun r109 s109 => ?_)
                      try simp only [uz_oo (show (32 : Nat) ≠ 34 by decide), uz_oo (show (32 : Nat) ≠ 35 by decide), uz_s] at r109 s109 ⊢
                      refine Z_bipush (n := 112) dX4_gate_110 rfl (by decide) (by decide) ?_
                      refine Z_icmp_ne (n := 115) (t := 118) dX4_gate_112 rfl (by decide) (fun c112 => ?_) (fun c112 => ?_)
                      · refine Z_bipush (n := 120) dX4_gate_118 rfl (by decide) (by decide) ?_
                        refine Z_iload_n (n := 121) dX4_gate_120 rfl rfl ?_
                        refine Z_imul (n := 122) dX4_gate_121 rfl (by omega) ?_
                        refine Z_aload_n (n := 123) dX4_gate_122 rfl rfl ?_
                        refine Z_getA (n := 126) dX4_gate_123 rfl ffX4_7 rfl rfl ?_
                        refine Z_iload_n (n := 127) dX4_gate_126 rfl rfl ?_
                        refine Z_iald (n := 128) dX4_gate_127 rfl rfl rfl (by first | decide | assumption) (by omega) (by omega) (fun r127 s127 => ?_)
                        try simp only [uz_oo (show (32 : Nat) ≠ 34 by decide), uz_oo (show (32 : Nat) ≠ 35 by decide), uz_s] at r127 s127 ⊢
                        refine Z_iadd (n := 129) dX4_gate_128 rfl (by omega) ?_
                        refine Z_istore (L' := [_, _, _, _, _, _, _, _]) (n := 131) dX4_gate_129 rfl (by decide) rfl rfl ?_
                        refine Z_aload_n (n := 132) dX4_gate_131 rfl rfl ?_
                        refine Z_getA (n := 135) dX4_gate_132 rfl ffX4_16 rfl rfl ?_
                        refine Z_iload (n := 137) dX4_gate_135 rfl rfl ?_
                        refine Z_iload_n (n := 138) dX4_gate_137 rfl rfl ?_
                        refine Z_iast (n := 139) dX4_gate_138 rfl rfl rfl (by first | decide | assumption) (by omega) (by omega) (by first | assumption | omega | decide) (by first | assumption | omega | decide) (by exact fun h => h) ?_
                        refine Z_aload_n (n := 140) dX4_gate_139 rfl rfl ?_
                        refine Z_getA (n := 143) dX4_gate_140 rfl ffX4_19 rfl rfl ?_
                        refine Z_iconst (n := 144) dX4_gate_143 rfl (by decide) ?_
                        refine Z_iload (n := 146) dX4_gate_144 rfl rfl ?_
                        refine Z_imul (n := 147) dX4_gate_146 rfl (by omega) ?_
                        refine Z_iload_n (n := 148) dX4_gate_147 rfl rfl ?_
                        refine Z_iast (n := 149) dX4_gate_148 rfl rfl rfl (by first | decide | assumption) (by omega) (by omega) (by first | exact (show zI u from hav (vI u) (by simp)).1 | exact (show zI u from hav (vI u) (by simp)).2) (by first | exact (show zI u from hav (vI u) (by simp)).1 | exact (show zI u from hav (vI u) (by simp)).2) (by exact fun h => h) ?_
                        refine Z_aload_n (n := 150) dX4_gate_149 rfl rfl ?_
                        refine Z_getA (n := 153) dX4_gate_150 rfl ffX4_19 rfl rfl ?_
                        refine Z_iconst (n := 154) dX4_gate_153 rfl (by decide) ?_
                        refine Z_iload (n := 156) dX4_gate_154 rfl rfl ?_
                        refine Z_imul (n := 157) dX4_gate_156 rfl (by omega) ?_
                        refine Z_iconst (n := 158) dX4_gate_157 rfl (by decide) ?_
                        refine Z_iadd (n := 159) dX4_gate_158 rfl (by omega) ?_
                        refine Z_iload (n := 161) dX4_gate_159 rfl rfl ?_
                        refine Z_iast (n := 162) dX4_gate_161 rfl rfl rfl (by first | decide | assumption) (by omega) (by omega) (by first | exact (show zI v from hav (vI v) (by simp)).1 | exact (show zI v from hav (vI v) (by simp)).2) (by first | exact (show zI v from hav (vI v) (by simp)).1 | exact (show zI v from hav (vI v) (by simp)).2) (by exact fun h => h) ?_
                        refine Z_aload_n (n := 163) dX4_gate_162 rfl rfl ?_
                        refine Z_getA (n := 166) dX4_gate_163 rfl ffX4_19 rfl rfl ?_
                        refine Z_iconst (n := 167) dX4_gate_166 rfl (by decide) ?_
                        refine Z_iload (n := 169) dX4_gate_167 rfl rfl ?_
                        refine Z_imul (n := 170) dX4_gate_169 rfl (by omega) ?_
                        refine Z_iconst (n := 171) dX4_gate_170 rfl (by decide) ?_
                        refine Z_iadd (n := 172) dX4_gate_171 rfl (by omega) ?_
                        refine Z_iload (n := 174) dX4_gate_172 rfl rfl ?_
                        refine Z_iast (n := 175) dX4_gate_174 rfl rfl rfl (by first | decide | assumption) (by omega) (by omega) (by first | exact (show zI w from hav (vI w) (by simp)).1 | exact (show zI w from hav (vI w) (by simp)).2) (by first | exact (show zI w from hav (vI w) (by simp)).1 | exact (show zI w from hav (vI w) (by simp)).2) (by exact fun h => h) ?_
                        refine Z_aload_n (n := 176) dX4_gate_175 rfl rfl ?_
                        refine Z_getA (n := 179) dX4_gate_176 rfl ffX4_7 rfl rfl ?_
                        refine Z_iload_n (n := 180) dX4_gate_179 rfl rfl ?_
                        refine Z_dup2 (n := 181) dX4_gate_180 rfl rfl rfl ?_
                        refine Z_iald (n := 182) dX4_gate_181 rfl rfl rfl (by first | decide | assumption) (by omega) (by omega) (fun r181 s181 => ?_)
                        try simp only [uz_oo (show (32 : Nat) ≠ 34 by decide), uz_oo (show (32 : Nat) ≠ 35 by decide), uz_s] at r181 s181 ⊢
                        refine Z_iconst (n := 183) dX4_gate_182 rfl (by decide) ?_
                        refine Z_iadd (n := 184) dX4_gate_183 rfl (by omega) ?_
                        refine Z_iast (n := 185) dX4_gate_184 rfl rfl rfl (by first | decide | assumption) (by omega) (by omega) (by first | assumption | omega | decide) (by first | assumption | omega | decide) (by exact fun h => h) ?_
                        refine Z_aload_n (n := 186) dX4_gate_185 rfl rfl ?_
                        refine Z_getA (n := 189) dX4_gate_186 rfl ffX4_7 rfl rfl ?_
                        refine Z_iload_n (n := 190) dX4_gate_189 rfl rfl ?_
                        refine Z_iald (n := 191) dX4_gate_190 rfl rfl rfl (by first | decide | assumption) (by omega) (by omega) (fun r190 s190 => ?_)
                        try simp only [uz_oo (show (32 : Nat) ≠ 34 by decide), uz_oo (show (32 : Nat) ≠ 35 by decide), uz_s] at r190 s190 ⊢
                        refine Z_iconst (n := 192) dX4_gate_191 rfl (by decide) ?_
                        refine Z_isub (n := 193) dX4_gate_192 rfl (by omega) ?_
                        refine Z_iret dX4_gate_193 rfl ?_
                        exact ⟨rfl, Or.inr (Or.inr (Or.inr ⟨by omega, by omega, by omega, by omega, by omega, Or.inr ⟨by omega, Or.inr ⟨by omega, by omega, rfl⟩⟩⟩))⟩
                      · refine Z_bipush (n := 117) dX4_gate_115 rfl (by decide) (by decide) ?_
                        refine Z_iret dX4_gate_117 rfl ?_
                        exact ⟨rfl, Or.inr (Or.inr (Or.inr ⟨by omega, by omega, by omega, by omega, by omega, Or.inr ⟨by omega, Or.inl ⟨rfl, rfl, by omega⟩⟩⟩))⟩
                    · refine Z_iload_n (n := 92) dX4_gate_91 rfl rfl ?_
                      refine Z_iconst (n := 93) dX4_gate_92 rfl (by decide) ?_
                      refine Z_bipush (n := 95) dX4_gate_93 rfl (by decide) (by decide) ?_
                      refine Z_callSi (n := 98) [_, _, _] _ dX4_gate_95 rfl cwX4_112 rfl rfl (Nat.le_of_ble_eq_true rfl) (by refine ⟨?_, ?_, ?_, ?_⟩ <;> exact Nat.le_of_ble_eq_true rfl) (fun _ _ => trivial) (zX4_in  ) ?_
                      intro x95 M95 J95 z95 f95 q95
                      obtain ⟨e95_1, e95_2, h95⟩ := q95
                      replace e95_1 := e95_1.symm; subst e95_1
                      replace e95_2 := e95_2.symm; subst e95_2
                      refine Z_if_ne (n := 101) (t := 104) dX4_gate_98 rfl (by decide) (fun c98 => ?_) (fun c98 => ?_)
                      · refine Z_aload_n (n := 105) dX4_gate_104 rfl rfl ?_
                        refine Z_getA (n := 108) dX4_gate_105 rfl ffX4_7 rfl rfl ?_
                        refine Z_iload_n (n := 109) dX4_gate_108 rfl rfl ?_
                        refine Z_iald (n := 110) dX4_gate_109 rfl rfl rfl (by first | decide | assumption) (by omega) (by omega) (fun r109 s109 => ?_)
                        try simp only [uz_oo (show (32 : Nat) ≠ 34 by decide), uz_oo (show (32 : Nat) ≠ 35 by decide), uz_s] at r109 s109 ⊢
                        refine Z_bipush (n := 112) dX4_gate_110 rfl (by decide) (by decide) ?_
                        refine Z_icmp_ne (n := 115) (t := 118) dX4_gate_112 rfl (by decide) (fun c112 => ?_) (fun c112 => ?_)
                        · refine Z_bipush (n := 120) dX4_gate_118 rfl (by decide) (by decide) ?_
                          refine Z_iload_n (n := 121) dX4_gate_120 rfl rfl ?_
                          refine Z_imul (n := 122) dX4_gate_121 rfl (by omega) ?_
                          refine Z_aload_n (n := 123) dX4_gate_122 rfl rfl ?_
                          refine Z_getA (n := 126) dX4_gate_123 rfl ffX4_7 rfl rfl ?_
                          refine Z_iload_n (n := 127) dX4_gate_126 rfl rfl ?_
                          refine Z_iald (n := 128) dX4_gate_127 rfl rfl rfl (by first | decide | assumption) (by omega) (by omega) (fun r127 s127 => ?_)
                          try simp only [uz_oo (show (32 : Nat) ≠ 34 by decide), uz_oo (show (32 : Nat) ≠ 35 by decide), uz_s] at r127 s127 ⊢
                          refine Z_iadd (n := 129) dX4_gate_128 rfl (by omega) ?_
                          refine Z_istore (L' := [_, _, _, _, _, _, _, _]) (n := 131) dX4_gate_129 rfl (by decide) rfl rfl ?_
                          refine Z_aload_n (n := 132) dX4_gate_131 rfl rfl ?_
                          refine Z_getA (n := 135) dX4_gate_132 rfl ffX4_16 rfl rfl ?_
                          refine Z_iload (n := 137) dX4_gate_135 rfl rfl ?_
                          refine Z_iload_n (n := 138) dX4_gate_137 rfl rfl ?_
                          refine Z_iast (n := 139) dX4_gate_138 rfl rfl rfl (by first | decide | assumption) (by omega) (by omega) (by first | assumption | omega | decide) (by first | assumption | omega | decide) (by exact fun h => h) ?_
                          refine Z_aload_n (n := 140) dX4_gate_139 rfl rfl ?_
                          refine Z_getA (n := 143) dX4_gate_140 rfl ffX4_19 rfl rfl ?_
                          refine Z_iconst (n := 144) dX4_gate_143 rfl (by decide) ?_
                          refine Z_iload (n := 146) dX4_gate_144 rfl rfl ?_
                          refine Z_imul (n := 147) dX4_gate_146 rfl (by omega) ?_
                          refine Z_iload_n (n := 148) dX4_gate_147 rfl rfl ?_
                          refine Z_iast (n := 149) dX4_gate_148 rfl rfl rfl (by first | decide | assumption) (by omega) (by omega) (by first | exact (show zI u from hav (vI u) (by simp)).1 | exact (show zI u from hav (vI u) (by simp)).2) (by first | exact (show zI u from hav (vI u) (by simp)).1 | exact (show zI u from hav (vI u) (by simp)).2) (by exact fun h => h) ?_
                          refine Z_aload_n (n := 150) dX4_gate_149 rfl rfl ?_
                          refine Z_getA (n := 153) dX4_gate_150 rfl ffX4_19 rfl rfl ?_
                          refine Z_iconst (n := 154) dX4_gate_153 rfl (by decide) ?_
                          refine Z_iload (n := 156) dX4_gate_154 rfl rfl ?_
                          refine Z_imul (n := 157) dX4_gate_156 rfl (by omega) ?_
                          refine Z_iconst (n := 158) dX4_gate_157 rfl (by decide) ?_
                          refine Z_iadd (n := 159) dX4_gate_158 rfl (by omega) ?_
                          refine Z_iload (n := 161) dX4_gate_159 rfl rfl ?_
                          refine Z_iast (n := 162) dX4_gate_161 rfl rfl rfl (by first | decide | assumption) (by omega) (by omega) (by first | exact (show zI v from hav (vI v) (by simp)).1 | exact (show zI v from hav (vI v) (by simp)).2) (by first | exact (show zI v from hav (vI v) (by simp)).1 | exact (show zI v from hav (vI v) (by simp)).2) (by exact fun h => h) ?_
                          refine Z_aload_n (n := 163) dX4_gate_162 rfl rfl ?_
                          refine Z_getA (n := 166) dX4_gate_163 rfl ffX4_19 rfl rfl ?_
                          refine Z_iconst (n := 167) dX4_gate_166 rfl (by decide) ?_
                          refine Z_iload (n := 169) dX4_gate_167 rfl rfl ?_
                          refine Z_imul (n := 170) dX4_gate_169 rfl (by omega) ?_
                          refine Z_iconst (n := 171) dX4_gate_170 rfl (by decide) ?_
                          refine Z_iadd (n := 172) dX4_gate_171 rfl (by omega) ?_
                          refine Z_iload (n := 174) dX4_gate_172 rfl rfl ?_
                          refine Z_iast (n := 175) dX4_gate_174 rfl rfl rfl (by first | decide | assumption) (by omega) (by omega) (by first | exact (show zI w from hav (vI w) (by simp)).1 | exact (show zI w from hav (vI w) (by simp)).2) (by first | exact (show zI w from hav (vI w) (by simp)).1 | exact (show zI w from hav (vI w) (by simp)).2) (by exact fun h => h) ?_
                          refine Z_aload_n (n := 176) dX4_gate_175 rfl rfl ?_
                          refine Z_getA (n := 179) dX4_gate_176 rfl ffX4_7 rfl rfl ?_
                          refine Z_iload_n (n := 180) dX4_gate_179 rfl rfl ?_
                          refine Z_dup2 (n := 181) dX4_gate_180 rfl rfl rfl ?_
                          refine Z_iald (n := 182) dX4_gate_181 rfl rfl rfl (by first | decide | assumption) (by omega) (by omega) (fun r181 s181 => ?_)
                          try simp only [uz_oo (show (32 : Nat) ≠ 34 by decide), uz_oo (show (32 : Nat) ≠ 35 by decide), uz_s] at r181 s181 ⊢
                          refine Z_iconst (n := 183) dX4_gate_182 rfl (by decide) ?_
                          refine Z_iadd (n := 184) dX4_gate_183 rfl (by omega) ?_
                          refine Z_iast (n := 185) dX4_gate_184 rfl rfl rfl (by first | decide | assumption) (by omega) (by omega) (by first | assumption | omega | decide) (by first | assumption | omega | decide) (by exact fun h => h) ?_
                          refine Z_aload_n (n := 186) dX4_gate_185 rfl rfl ?_
                          refine Z_getA (n := 189) dX4_gate_186 rfl ffX4_7 rfl rfl ?_
                          refine Z_iload_n (n := 190) dX4_gate_189 rfl rfl ?_
                          refine Z_iald (n := 191) dX4_gate_190 rfl rfl rfl (by first | decide | assumption) (by omega) (by omega) (fun r190 s190 => ?_)
                          try simp only [uz_oo (show (32 : Nat) ≠ 34 by decide), uz_oo (show (32 : Nat) ≠ 35 by decide), uz_s] at r190 s190 ⊢
                          refine Z_iconst (n := 192) dX4_gate_191 rfl (by decide) ?_
                          refine Z_isub (n := 193) dX4_gate_192 rfl (by omega) ?_
                          refine Z_iret dX4_gate_193 rfl ?_
                          exact ⟨rfl, Or.inr (Or.inr (Or.inr ⟨by omega, by omega, by omega, by omega, by omega, Or.inr ⟨by omega, Or.inr ⟨by omega, by omega, rfl⟩⟩⟩))⟩
                        · refine Z_bipush (n := 117) dX4_gate_115 rfl (by decide) (by decide) ?_
                          refine Z_iret dX4_gate_117 rfl ?_
                          exact ⟨rfl, Or.inr (Or.inr (Or.inr ⟨by omega, by omega, by omega, by omega, by omega, Or.inr ⟨by omega, Or.inl ⟨rfl, rfl, by omega⟩⟩⟩))⟩
                      · refine Z_bipush (n := 103) dX4_gate_101 rfl (by decide) (by decide) ?_
                        refine Z_iret dX4_gate_103 rfl ?_
                        first | exact ⟨rfl, Or.inr (Or.inl ⟨by omega, by omega, by omega, rfl, rfl⟩)⟩ | exact ⟨rfl, Or.inr (Or.inr (Or.inr ⟨by omega, by omega, by omega, by omega, by omega, Or.inl ⟨by omega, by omega, rfl, rfl⟩⟩))⟩
                · refine Z_iconst (n := 76) dX4_gate_75 rfl (by decide) ?_
                  refine Z_iret dX4_gate_76 rfl ?_
                  exact ⟨rfl, Or.inr (Or.inr (Or.inl ⟨by omega, by omega, by omega, by omega, by omega, rfl, rfl⟩))⟩
    refine Z_iload_n (n := 10) dX4_gate_9 rfl rfl ?_
    refine Z_iconst (n := 11) dX4_gate_10 rfl (by decide) ?_
    refine Z_bipush (n := 13) dX4_gate_11 rfl (by decide) (by decide) ?_
    refine Z_callSi (n := 16) [_, _, _] _ dX4_gate_13 rfl cwX4_112 rfl rfl (Nat.le_of_ble_eq_true rfl) (by refine ⟨?_, ?_, ?_, ?_⟩ <;> exact Nat.le_of_ble_eq_true rfl) (fun _ _ => trivial) (zX4_in  ) ?_
    intro x13 M13 J13 z13 f13 q13
    obtain ⟨e13_1, e13_2, h13⟩ := q13
    replace e13_1 := e13_1.symm; subst e13_1
    replace e13_2 := e13_2.symm; subst e13_2
    refine Z_if_eq (n := 19) (t := 26) dX4_gate_16 rfl (by decide) (fun c16 => ?_) (fun c16 => ?_)
    · refine Z_iconst (n := 27) dX4_gate_26 rfl (by decide) ?_
      refine Z_istore (L' := [_, _, _, _, _, _, _, _]) (n := 29) dX4_gate_27 rfl (by decide) rfl rfl ?_
      refine Z_loc (L' := [some _, some _, some _, some _, some _, some _, some _, none]) (lsub_same (lsub_same (lsub_same (lsub_same (lsub_same (lsub_same (lsub_same (lsub_none lsub_nil)))))))) ?_
      exact ct29 _  (by first | assumption | omega | decide) (by first | assumption | omega | decide) (by first | exact Or.inl ⟨by omega, by omega, h20⟩ | exact Or.inr ⟨by omega, rfl⟩)
    · refine Z_iload_n (n := 20) dX4_gate_19 rfl rfl ?_
      refine Z_callSi (n := 23) [_] _ dX4_gate_20 rfl cwX4_120 rfl rfl (Nat.le_of_ble_eq_true rfl) (by refine ⟨?_, ?_, ?_, ?_⟩ <;> exact Nat.le_of_ble_eq_true rfl) (fun _ _ => trivial) (zX4_wants  ) ?_
      intro x20 M20 J20 z20 f20 q20
      obtain ⟨e20_1, e20_2, h20⟩ := q20
      replace e20_1 := e20_1.symm; subst e20_1
      replace e20_2 := e20_2.symm; subst e20_2
      refine Z_goto (t := 27) dX4_gate_23 (by decide) ?_
      refine Z_istore (L' := [_, _, _, _, _, _, _, _]) (n := 29) dX4_gate_27 rfl (by decide) rfl rfl ?_
      refine Z_loc (L' := [some _, some _, some _, some _, some _, some _, some _, none]) (lsub_same (lsub_same (lsub_same (lsub_same (lsub_same (lsub_same (lsub_same (lsub_none lsub_nil)))))))) ?_
      exact ct29 _  (by first | assumption | omega | decide) (by first | assumption | omega | decide) (by first | exact Or.inl ⟨by omega, by omega, h20⟩ | exact Or.inr ⟨by omega, rfl⟩)
  · refine Z_iconst (n := 8) dX4_gate_7 rfl (by decide) ?_
    refine Z_iret dX4_gate_8 rfl ?_
    exact ⟨rfl, Or.inl ⟨by omega, rfl, rfl⟩⟩
set_option maxRecDepth 20000 in
theorem zX4_output {G : tl_G} {M : zM} {J : zJ} {net g : Int}  : ZN G yX4_output mX4_output 2 kF [vR 31, vI net, vI g] F1 M J (qI (fun x M' J' => J' = J ∧ (((net < 0 ∨ 3 ≤ net) ∧ x = -1 ∧ M' = M) ∨ (0 ≤ net ∧ net < 3 ∧ (g < 0 ∨ M 32 net ≤ g) ∧ x = -1 ∧ M' = M) ∨ (0 ≤ net ∧ net < 3 ∧ 0 ≤ g ∧ g < M 32 net ∧ ((x = -4 ∧ M' = M ∧ 4 ≤ M 33 net) ∨ (x = M 33 net ∧ M 33 net < 4 ∧ M' = uz (uz M 36 (4 * net + M 33 net) g) 33 net (M 33 net + 1))))))) := by
  refine ZN_of (L := [_, _, _]) (by decide) rfl rfl (Nat.le_of_ble_eq_true rfl) rfl (fun hav => ?_)
  refine Z_iload_n (n := 1) dX4_output_0 rfl rfl ?_
  refine Z_callSi (n := 4) [_] _ dX4_output_1 rfl cwX4_116 rfl rfl (Nat.le_of_ble_eq_true rfl) (by refine ⟨?_, ?_, ?_, ?_⟩ <;> exact Nat.le_of_ble_eq_true rfl) (fun _ _ => trivial) (zX4_isNet  ) ?_
  intro x1 M1 J1 z1 f1 q1
  obtain ⟨e1_1, e1_2, h1⟩ := q1
  replace e1_1 := e1_1.symm; subst e1_1
  replace e1_2 := e1_2.symm; subst e1_2
  refine Z_if_eq (n := 7) (t := 16) dX4_output_4 rfl (by decide) (fun c4 => ?_) (fun c4 => ?_)
  · refine Z_iconst (n := 17) dX4_output_16 rfl (by decide) ?_
    refine Z_iret dX4_output_17 rfl ?_
    first | exact ⟨rfl, Or.inl ⟨by omega, rfl, rfl⟩⟩ | exact ⟨rfl, Or.inr (Or.inl ⟨by omega, by omega, by omega, rfl, rfl⟩)⟩
  · refine Z_aload_n (n := 8) dX4_output_7 rfl rfl ?_
    refine Z_iload_n (n := 9) dX4_output_8 rfl rfl ?_
    refine Z_iload_n (n := 10) dX4_output_9 rfl rfl ?_
    refine Z_callVi (n := 13) [_, _] _ dX4_output_10 rfl cwX4_124 rfl rfl rfl (Nat.le_of_ble_eq_true rfl) (by refine ⟨?_, ?_, ?_, ?_⟩ <;> exact Nat.le_of_ble_eq_true rfl) (fun _ _ => trivial) (zX4_isGate  (by first | assumption | omega | decide) (by first | assumption | omega | decide)) ?_
    intro x10 M10 J10 z10 f10 q10
    obtain ⟨e10_1, e10_2, h10⟩ := q10
    replace e10_1 := e10_1.symm; subst e10_1
    replace e10_2 := e10_2.symm; subst e10_2
    refine Z_if_ne (n := 16) (t := 18) dX4_output_13 rfl (by decide) (fun c13 => ?_) (fun c13 => ?_)
    · refine Z_aload_n (n := 19) dX4_output_18 rfl rfl ?_
      refine Z_getA (n := 22) dX4_output_19 rfl ffX4_13 rfl rfl ?_
      refine Z_iload_n (n := 23) dX4_output_22 rfl rfl ?_
      refine Z_iald (n := 24) dX4_output_23 rfl rfl rfl (by first | decide | assumption) (by omega) (by omega) (fun r23 s23 => ?_)
      try simp only [uz_oo (show (33 : Nat) ≠ 36 by decide), uz_s] at r23 s23 ⊢
      refine Z_iconst (n := 25) dX4_output_24 rfl (by decide) ?_
      refine Z_icmp_ne (n := 28) (t := 31) dX4_output_25 rfl (by decide) (fun c25 => ?_) (fun c25 => ?_)
      · refine Z_aload_n (n := 32) dX4_output_31 rfl rfl ?_
        refine Z_getA (n := 35) dX4_output_32 rfl ffX4_22 rfl rfl ?_
        refine Z_iconst (n := 36) dX4_output_35 rfl (by decide) ?_
        refine Z_iload_n (n := 37) dX4_output_36 rfl rfl ?_
        refine Z_imul (n := 38) dX4_output_37 rfl (by omega) ?_
        refine Z_aload_n (n := 39) dX4_output_38 rfl rfl ?_
        refine Z_getA (n := 42) dX4_output_39 rfl ffX4_13 rfl rfl ?_
        refine Z_iload_n (n := 43) dX4_output_42 rfl rfl ?_
        refine Z_iald (n := 44) dX4_output_43 rfl rfl rfl (by first | decide | assumption) (by omega) (by omega) (fun r43 s43 => ?_)
        try simp only [uz_oo (show (33 : Nat) ≠ 36 by decide), uz_s] at r43 s43 ⊢
        refine Z_iadd (n := 45) dX4_output_44 rfl (by omega) ?_
        refine Z_iload_n (n := 46) dX4_output_45 rfl rfl ?_
        refine Z_rg 32 net rfl (fun g4 g4b => ?_)
        refine Z_iast (n := 47) dX4_output_46 rfl rfl rfl (by first | decide | assumption) (by omega) (by omega) (by first | assumption | omega | decide) (by first | assumption | omega | decide) (by exact fun h => h) ?_
        refine Z_aload_n (n := 48) dX4_output_47 rfl rfl ?_
        refine Z_getA (n := 51) dX4_output_48 rfl ffX4_13 rfl rfl ?_
        refine Z_iload_n (n := 52) dX4_output_51 rfl rfl ?_
        refine Z_dup2 (n := 53) dX4_output_52 rfl rfl rfl ?_
        refine Z_iald (n := 54) dX4_output_53 rfl rfl rfl (by first | decide | assumption) (by omega) (by omega) (fun r53 s53 => ?_)
        try simp only [uz_oo (show (33 : Nat) ≠ 36 by decide), uz_s] at r53 s53 ⊢
        refine Z_iconst (n := 55) dX4_output_54 rfl (by decide) ?_
        refine Z_iadd (n := 56) dX4_output_55 rfl (by omega) ?_
        refine Z_iast (n := 57) dX4_output_56 rfl rfl rfl (by first | decide | assumption) (by omega) (by omega) (by first | assumption | omega | decide) (by first | assumption | omega | decide) (by exact fun h => h) ?_
        refine Z_aload_n (n := 58) dX4_output_57 rfl rfl ?_
        refine Z_getA (n := 61) dX4_output_58 rfl ffX4_13 rfl rfl ?_
        refine Z_iload_n (n := 62) dX4_output_61 rfl rfl ?_
        refine Z_iald (n := 63) dX4_output_62 rfl rfl rfl (by first | decide | assumption) (by omega) (by omega) (fun r62 s62 => ?_)
        try simp only [uz_oo (show (33 : Nat) ≠ 36 by decide), uz_s] at r62 s62 ⊢
        refine Z_iconst (n := 64) dX4_output_63 rfl (by decide) ?_
        refine Z_isub (n := 65) dX4_output_64 rfl (by omega) ?_
        refine Z_iret dX4_output_65 rfl ?_
        exact ⟨rfl, Or.inr (Or.inr ⟨by omega, by omega, by omega, by omega, Or.inr ⟨by omega, by omega, rfl⟩⟩)⟩
      · refine Z_bipush (n := 30) dX4_output_28 rfl (by decide) (by decide) ?_
        refine Z_iret dX4_output_30 rfl ?_
        exact ⟨rfl, Or.inr (Or.inr ⟨by omega, by omega, by omega, by omega, Or.inl ⟨rfl, rfl, by omega⟩⟩)⟩
    · refine Z_iconst (n := 17) dX4_output_16 rfl (by decide) ?_
      refine Z_iret dX4_output_17 rfl ?_
      first | exact ⟨rfl, Or.inl ⟨by omega, rfl, rfl⟩⟩ | exact ⟨rfl, Or.inr (Or.inl ⟨by omega, by omega, by omega, rfl, rfl⟩)⟩
set_option maxRecDepth 20000 in
theorem zX4_clear {G : tl_G} {M : zM} {J : zJ} {net : Int}  : ZN G yX4_clear mX4_clear 2 kF [vR 31, vI net] F1 M J (qI (fun x M' J' => J' = J ∧ (((net < 0 ∨ 3 ≤ net) ∧ x = -1 ∧ M' = M) ∨ (0 ≤ net ∧ net < 3 ∧ x = M 32 net ∧ M' = uz (uz M 32 net 0) 33 net 0)))) := by
  refine ZN_of (L := [_, _, _]) (by decide) rfl rfl (Nat.le_of_ble_eq_true rfl) rfl (fun hav => ?_)
  refine Z_iload_n (n := 1) dX4_clear_0 rfl rfl ?_
  refine Z_callSi (n := 4) [_] _ dX4_clear_1 rfl cwX4_116 rfl rfl (Nat.le_of_ble_eq_true rfl) (by refine ⟨?_, ?_, ?_, ?_⟩ <;> exact Nat.le_of_ble_eq_true rfl) (fun _ _ => trivial) (zX4_isNet  ) ?_
  intro x1 M1 J1 z1 f1 q1
  obtain ⟨e1_1, e1_2, h1⟩ := q1
  replace e1_1 := e1_1.symm; subst e1_1
  replace e1_2 := e1_2.symm; subst e1_2
  refine Z_if_ne (n := 7) (t := 9) dX4_clear_4 rfl (by decide) (fun c4 => ?_) (fun c4 => ?_)
  · refine Z_aload_n (n := 10) dX4_clear_9 rfl rfl ?_
    refine Z_getA (n := 13) dX4_clear_10 rfl ffX4_7 rfl rfl ?_
    refine Z_iload_n (n := 14) dX4_clear_13 rfl rfl ?_
    refine Z_iald (n := 15) dX4_clear_14 rfl rfl rfl (by first | decide | assumption) (by omega) (by omega) (fun r14 s14 => ?_)
    refine Z_istore_n (L' := [_, _, _]) (n := 16) dX4_clear_15 rfl (by decide) rfl rfl ?_
    refine Z_aload_n (n := 17) dX4_clear_16 rfl rfl ?_
    refine Z_getA (n := 20) dX4_clear_17 rfl ffX4_7 rfl rfl ?_
    refine Z_iload_n (n := 21) dX4_clear_20 rfl rfl ?_
    refine Z_iconst (n := 22) dX4_clear_21 rfl (by decide) ?_
    refine Z_iast (n := 23) dX4_clear_22 rfl rfl rfl (by first | decide | assumption) (by omega) (by omega) (by first | assumption | omega | decide) (by first | assumption | omega | decide) (by exact fun h => h) ?_
    refine Z_aload_n (n := 24) dX4_clear_23 rfl rfl ?_
    refine Z_getA (n := 27) dX4_clear_24 rfl ffX4_13 rfl rfl ?_
    refine Z_iload_n (n := 28) dX4_clear_27 rfl rfl ?_
    refine Z_iconst (n := 29) dX4_clear_28 rfl (by decide) ?_
    refine Z_iast (n := 30) dX4_clear_29 rfl rfl rfl (by first | decide | assumption) (by omega) (by omega) (by first | assumption | omega | decide) (by first | assumption | omega | decide) (by exact fun h => h) ?_
    refine Z_iload_n (n := 31) dX4_clear_30 rfl rfl ?_
    refine Z_iret dX4_clear_31 rfl ?_
    exact ⟨rfl, Or.inr ⟨by omega, by omega, rfl, rfl⟩⟩
  · refine Z_iconst (n := 8) dX4_clear_7 rfl (by decide) ?_
    refine Z_iret dX4_clear_8 rfl ?_
    exact ⟨rfl, Or.inl ⟨by omega, rfl, rfl⟩⟩
set_option maxRecDepth 20000 in
theorem zX4_at {G : tl_G} {M : zM} {J : zJ} {p : Int}  : ZN G yX4_at mX4_at 1 kAll [vR 31, vI p] F1 M J (qI (fun x M' J' => M' = M ∧ J' = J ∧ (((p < 0 ∨ 8 ≤ p) ∧ x = -2) ∨ (0 ≤ p ∧ p < 8 ∧ x = M 38 p)))) := by
  refine ZN_of (L := [_, _]) (by decide) rfl rfl (Nat.le_of_ble_eq_true rfl) rfl (fun hav => ?_)
  refine Z_iload_n (n := 1) dX4_at_0 rfl rfl ?_
  refine Z_iconst (n := 2) dX4_at_1 rfl (by decide) ?_
  refine Z_bipush (n := 4) dX4_at_2 rfl (by decide) (by decide) ?_
  refine Z_callSi (n := 7) [_, _, _] _ dX4_at_4 rfl cwX4_112 rfl rfl (Nat.le_of_ble_eq_true rfl) (by refine ⟨?_, ?_, ?_, ?_⟩ <;> exact Nat.le_of_ble_eq_true rfl) (fun _ h => h) (zX4_in  ) ?_
  intro x4 M4 J4 z4 f4 q4
  obtain ⟨e4_1, e4_2, h4⟩ := q4
  replace e4_1 := e4_1.symm; subst e4_1
  replace e4_2 := e4_2.symm; subst e4_2
  refine Z_if_eq (n := 10) (t := 19) dX4_at_7 rfl (by decide) (fun c7 => ?_) (fun c7 => ?_)
  · refine Z_bipush (n := 21) dX4_at_19 rfl (by decide) (by decide) ?_
    refine Z_iret dX4_at_21 rfl ?_
    refine ⟨rfl, rfl, ?_⟩; omega
  · refine Z_aload_n (n := 11) dX4_at_10 rfl rfl ?_
    refine Z_getA (n := 14) dX4_at_11 rfl ffX4_29 rfl rfl ?_
    refine Z_iload_n (n := 15) dX4_at_14 rfl rfl ?_
    refine Z_iald (n := 16) dX4_at_15 rfl rfl rfl (by first | decide | assumption) (by omega) (by omega) (fun r15 s15 => ?_)
    refine Z_goto (t := 21) dX4_at_16 (by decide) ?_
    refine Z_iret dX4_at_21 rfl ?_
    refine ⟨rfl, rfl, ?_⟩; omega
set_option maxRecDepth 20000 in
theorem zX4_room {G : tl_G} {M : zM} {J : zJ} {n : Int}  : ZN G yX4_room mX4_room 1 kF [vR 31, vI n] F1 M J (qI (fun x M' J' => J' = J ∧ (((n < 0 ∨ 250 < n) ∧ x = -2 ∧ M' = M) ∨ (0 ≤ n ∧ n ≤ 250 ∧ n < M 31 24 ∧ x = -3 ∧ M' = M) ∨ (0 ≤ n ∧ n ≤ 250 ∧ M 31 24 ≤ n ∧ x = M 31 8 ∧ M' = uz M 31 8 n)))) := by
  refine ZN_of (L := [_, _, _]) (by decide) rfl rfl (Nat.le_of_ble_eq_true rfl) rfl (fun hav => ?_)
  refine Z_iload_n (n := 1) dX4_room_0 rfl rfl ?_
  refine Z_iconst (n := 2) dX4_room_1 rfl (by decide) ?_
  refine Z_sipush (n := 5) dX4_room_2 rfl (by decide) (by decide) ?_
  refine Z_callSi (n := 8) [_, _, _] _ dX4_room_5 rfl cwX4_112 rfl rfl (Nat.le_of_ble_eq_true rfl) (by refine ⟨?_, ?_, ?_, ?_⟩ <;> exact Nat.le_of_ble_eq_true rfl) (fun _ _ => trivial) (zX4_in  ) ?_
  intro x5 M5 J5 z5 f5 q5
  obtain ⟨e5_1, e5_2, h5⟩ := q5
  replace e5_1 := e5_1.symm; subst e5_1
  replace e5_2 := e5_2.symm; subst e5_2
  refine Z_if_ne (n := 11) (t := 14) dX4_room_8 rfl (by decide) (fun c8 => ?_) (fun c8 => ?_)
  · refine Z_aload_n (n := 15) dX4_room_14 rfl rfl ?_
    refine Z_getI (n := 18) (ki := 24) dX4_room_15 rfl ffX4_149 rfl rfl rfl (fun r15 s15 => ?_)
    refine Z_iload_n (n := 19) dX4_room_18 rfl rfl ?_
    refine Z_icmp_le (n := 22) (t := 25) dX4_room_19 rfl (by decide) (fun c19 => ?_) (fun c19 => ?_)
    · refine Z_aload_n (n := 26) dX4_room_25 rfl rfl ?_
      refine Z_getI (n := 29) (ki := 8) dX4_room_26 rfl ffX4_102 rfl rfl rfl (fun r26 s26 => ?_)
      refine Z_istore_n (L' := [_, _, _]) (n := 30) dX4_room_29 rfl (by decide) rfl rfl ?_
      refine Z_aload_n (n := 31) dX4_room_30 rfl rfl ?_
      refine Z_iload_n (n := 32) dX4_room_31 rfl rfl ?_
      refine Z_putI (n := 35) (ki := 8) dX4_room_32 rfl ffX4_102 rfl (by decide) rfl rfl (by first | assumption | omega | decide) (by first | assumption | omega | decide) (by exact fun h => h) ?_
      refine Z_iload_n (n := 36) dX4_room_35 rfl rfl ?_
      refine Z_iret dX4_room_36 rfl ?_
      exact ⟨rfl, Or.inr (Or.inr ⟨by omega, by omega, by omega, rfl, rfl⟩)⟩
    · refine Z_bipush (n := 24) dX4_room_22 rfl (by decide) (by decide) ?_
      refine Z_iret dX4_room_24 rfl ?_
      exact ⟨rfl, Or.inr (Or.inl ⟨by omega, by omega, by omega, rfl, rfl⟩)⟩
  · refine Z_bipush (n := 13) dX4_room_11 rfl (by decide) (by decide) ?_
    refine Z_iret dX4_room_13 rfl ?_
    exact ⟨rfl, Or.inl ⟨by omega, rfl, rfl⟩⟩
set_option maxRecDepth 20000 in
theorem zX4_move {G : tl_G} {M : zM} {J : zJ} {v p : Int} (hO : rOrd M) : ZN G yX4_move mX4_move 1 kMv [vR 31, vI v, vI p] F1 M J (qI (fun x M' J' => J' = J ∧ rOrd M' ∧ (((v < 0 ∨ 8 ≤ v ∨ p < 0 ∨ 8 ≤ p) ∧ x = -2) ∨ (0 ≤ v ∧ v < 8 ∧ 0 ≤ p ∧ p < 8 ∧ ((x = -3 ∧ ¬ noHr M) ∨ (x = M 39 v ∧ noHr M)))))) := by
  refine ZN_of (L := [_, _, _, _, _, _]) (by decide) rfl rfl (Nat.le_of_ble_eq_true rfl) rfl (fun hav => ?_)
  refine Z_iload_n (n := 1) dX4_move_0 rfl rfl ?_
  refine Z_iconst (n := 2) dX4_move_1 rfl (by decide) ?_
  refine Z_bipush (n := 4) dX4_move_2 rfl (by decide) (by decide) ?_
  refine Z_callSi (n := 7) [_, _, _] _ dX4_move_4 rfl cwX4_112 rfl rfl (Nat.le_of_ble_eq_true rfl) (by refine ⟨?_, ?_, ?_, ?_⟩ <;> exact Nat.le_of_ble_eq_true rfl) (fun _ _ => trivial) (zX4_in  ) ?_
  intro x4 M4 J4 z4 f4 q4
  obtain ⟨e4_1, e4_2, h4⟩ := q4
  replace e4_1 := e4_1.symm; subst e4_1
  replace e4_2 := e4_2.symm; subst e4_2
  refine Z_if_eq (n := 10) (t := 20) dX4_move_7 rfl (by decide) (fun c7 => ?_) (fun c7 => ?_)
  · refine Z_bipush (n := 22) dX4_move_20 rfl (by decide) (by decide) ?_
    refine Z_iret dX4_move_22 rfl ?_
    exact ⟨rfl, hO, Or.inl ⟨by omega, rfl⟩⟩
  · refine Z_iload_n (n := 11) dX4_move_10 rfl rfl ?_
    refine Z_iconst (n := 12) dX4_move_11 rfl (by decide) ?_
    refine Z_bipush (n := 14) dX4_move_12 rfl (by decide) (by decide) ?_
    refine Z_callSi (n := 17) [_, _, _] _ dX4_move_14 rfl cwX4_112 rfl rfl (Nat.le_of_ble_eq_true rfl) (by refine ⟨?_, ?_, ?_, ?_⟩ <;> exact Nat.le_of_ble_eq_true rfl) (fun _ _ => trivial) (zX4_in  ) ?_
    intro x14 M14 J14 z14 f14 q14
    obtain ⟨e14_1, e14_2, h14⟩ := q14
    replace e14_1 := e14_1.symm; subst e14_1
    replace e14_2 := e14_2.symm; subst e14_2
    refine Z_if_ne (n := 20) (t := 23) dX4_move_17 rfl (by decide) (fun c17 => ?_) (fun c17 => ?_)
    · refine Z_aload_n (n := 24) dX4_move_23 rfl rfl ?_
      refine Z_callVi (n := 27) [] _ dX4_move_24 rfl cwX4_141 rfl rfl rfl (Nat.le_of_ble_eq_true rfl) (by refine ⟨?_, ?_, ?_, ?_⟩ <;> exact Nat.le_of_ble_eq_true rfl) (fun _ _ => trivial) (zX4_isEmpty  ) ?_
      intro x24 M24 J24 z24 f24 q24
      obtain ⟨e24_1, e24_2, h24⟩ := q24
      replace e24_1 := e24_1.symm; subst e24_1
      replace e24_2 := e24_2.symm; subst e24_2
      refine Z_if_ne (n := 30) (t := 33) dX4_move_27 rfl (by decide) (fun c27 => ?_) (fun c27 => ?_)
      · refine Z_aload_n (n := 34) dX4_move_33 rfl rfl ?_
        refine Z_getA (n := 37) dX4_move_34 rfl ffX4_32 rfl rfl ?_
        refine Z_iload_n (n := 38) dX4_move_37 rfl rfl ?_
        refine Z_iald (n := 39) dX4_move_38 rfl rfl rfl (by first | decide | assumption) (by omega) (by omega) (fun r38 s38 => ?_)
        refine Z_istore_n (L' := [_, _, _, _, _, _]) (n := 40) dX4_move_39 rfl (by decide) rfl rfl ?_
        have hw := hO v (by omega) (by omega)
        refine Z_iload_n (n := 41) dX4_move_40 rfl rfl ?_
        refine Z_iload_n (n := 42) dX4_move_41 rfl rfl ?_
        refine Z_icmp_ge (n := 45) (t := 49) dX4_move_42 rfl (by decide) (fun c42 => ?_) (fun c42 => ?_)
        · refine Z_iconst (n := 50) dX4_move_49 rfl (by decide) ?_
          refine Z_istore (L' := [_, _, _, _, _, _]) (n := 52) dX4_move_50 rfl (by decide) rfl rfl ?_
          refine Z_iload_n (n := 53) dX4_move_52 rfl rfl ?_
          refine Z_istore (L' := [_, _, _, _, _, _]) (n := 55) dX4_move_53 rfl (by decide) rfl rfl ?_
          have lp55 : ∀ (N55 : Nat) (k s : Int) (M55 : zM) (J55 : zJ), ((p - k).natAbs) < N55 → (J55 = J) → (0 ≤ k) → (k ≤ 7) → ((s = 1 ∧ k ≤ p) ∨ (s = -1 ∧ p ≤ k)) → (rOrd M55) → TZ G mX4_move (tl_rm 1 0 0) 0 0 kMv M J 55 [some (vR 31), some (vI v), some (vI p), some (vI (M 39 v)), some (vI s), some (vI k)] [] F1 M55 J55 (ZM G (zPost G kMv F1 M J (qI (fun x M' J' => J' = J ∧ rOrd M' ∧ (((v < 0 ∨ 8 ≤ v ∨ p < 0 ∨ 8 ≤ p) ∧ x = -2) ∨ (0 ≤ v ∧ v < 8 ∧ 0 ≤ p ∧ p < 8 ∧ ((x = -3 ∧ ¬ noHr M) ∨ (x = M 39 v ∧ noHr M))))))) 0 0) := by
            intro N55
            induction N55 with
            | zero => intro k s M55 J55 hN; omega
            | succ N55 ih55 =>
              intro k s M55 J55 hN55 i55_0 i55_1 i55_2 i55_3 i55_4
              refine Z_iload (n := 57) dX4_move_55 rfl rfl ?_
              refine Z_iload_n (n := 58) dX4_move_57 rfl rfl ?_
              refine Z_icmp_eq (n := 61) (t := 88) dX4_move_58 rfl (by decide) (fun c58 => ?_) (fun c58 => ?_)
              · refine Z_aload_n (n := 89) dX4_move_88 rfl rfl ?_
                refine Z_getA (n := 92) dX4_move_89 rfl ffX4_29 rfl rfl ?_
                refine Z_iload_n (n := 93) dX4_move_92 rfl rfl ?_
                refine Z_iload_n (n := 94) dX4_move_93 rfl rfl ?_
                refine Z_iast (n := 95) dX4_move_94 rfl rfl rfl (by first | decide | assumption) (by omega) (by omega) (by first | assumption | omega | decide) (by first | assumption | omega | decide) (by decide) ?_
                refine Z_iconst (n := 96) dX4_move_95 rfl (by decide) ?_
                refine Z_istore (L' := [_, _, _, _, _, _]) (n := 98) dX4_move_96 rfl (by decide) rfl rfl ?_
                have lp98 : ∀ (N98 : Nat) (k : Int) (M98 : zM) (J98 : zJ), ((8 - k).toNat) < N98 → (J98 = J) → (0 ≤ k) → (k ≤ 8) → (rOrd M98) → TZ G mX4_move (tl_rm 1 0 0) 0 0 kMv M J 98 [some (vR 31), some (vI v), some (vI p), some (vI (M 39 v)), none, some (vI k)] [] F1 M98 J98 (ZM G (zPost G kMv F1 M J (qI (fun x M' J' => J' = J ∧ rOrd M' ∧ (((v < 0 ∨ 8 ≤ v ∨ p < 0 ∨ 8 ≤ p) ∧ x = -2) ∨ (0 ≤ v ∧ v < 8 ∧ 0 ≤ p ∧ p < 8 ∧ ((x = -3 ∧ ¬ noHr M) ∨ (x = M 39 v ∧ noHr M))))))) 0 0) := by
                  intro N98
                  induction N98 with
                  | zero => intro k M98 J98 hN; omega
                  | succ N98 ih98 =>
                    intro k M98 J98 hN98 i98_0 i98_1 i98_2 i98_3
                    refine Z_iload (n := 100) dX4_move_98 rfl rfl ?_
                    refine Z_bipush (n := 102) dX4_move_100 rfl (by decide) (by decide) ?_
                    refine Z_icmp_ge (n := 105) (t := 125) dX4_move_102 rfl (by decide) (fun c102 => ?_) (fun c102 => ?_)
                    · refine Z_iload_n (n := 126) dX4_move_125 rfl rfl ?_
                      refine Z_iret dX4_move_126 rfl ?_
                      rcases h24 with ⟨-, q⟩ | ⟨q, -⟩
                      · exact ⟨i98_0, i98_3, Or.inr ⟨by omega, by omega, by omega, by omega, Or.inr ⟨rfl, q⟩⟩⟩
                      · omega
                    · refine Z_aload_n (n := 106) dX4_move_105 rfl rfl ?_
                      refine Z_getA (n := 109) dX4_move_106 rfl ffX4_32 rfl rfl ?_
                      refine Z_aload_n (n := 110) dX4_move_109 rfl rfl ?_
                      refine Z_getA (n := 113) dX4_move_110 rfl ffX4_29 rfl rfl ?_
                      refine Z_iload (n := 115) dX4_move_113 rfl rfl ?_
                      refine Z_iald (n := 116) dX4_move_115 rfl rfl rfl (by first | decide | assumption) (by omega) (by omega) (fun r115 s115 => ?_)
                      refine Z_iload (n := 118) dX4_move_116 rfl rfl ?_
                      refine Z_iast (n := 119) dX4_move_118 rfl rfl rfl (by first | decide | assumption) (by omega) (by omega) (by first | assumption | omega | decide) (by first | assumption | omega | decide) (by decide) ?_
                      refine Z_iinc (L' := [_, _, _, _, _, _]) (n := 122) dX4_move_119 rfl rfl (by decide) rfl rfl (by omega) rfl ?_
                      refine Z_goto (t := 98) dX4_move_122 (by decide) ?_
                      refine Z_loc (L' := [some _, some _, some _, some _, none, some _]) (lsub_same (lsub_same (lsub_same (lsub_same (lsub_none (lsub_same lsub_nil)))))) ?_
                      exact ih98 _ _ _ (by omega) (by first | rfl | assumption) (by first | assumption | omega | decide) (by first | assumption | omega | decide) (by first | (intro w w0 w1; rw [uz_oo (by decide)]; exact i55_4 w w0 w1) | (intro w w0 w1; rw [uz_a]; have := i98_3 w w0 w1; split <;> omega))
                refine Z_loc (L' := [some _, some _, some _, some _, none, some _]) (lsub_same (lsub_same (lsub_same (lsub_same (lsub_none (lsub_same lsub_nil)))))) ?_
                exact lp98 _ _ _ _ (Nat.lt_succ_self _) (by first | rfl | assumption) (by first | assumption | omega | decide) (by first | assumption | omega | decide) (by first | (intro w w0 w1; rw [uz_oo (by decide)]; exact i55_4 w w0 w1) | (intro w w0 w1; rw [uz_a]; have := i98_3 w w0 w1; split <;> omega))
              · refine Z_aload_n (n := 62) dX4_move_61 rfl rfl ?_
                refine Z_getA (n := 65) dX4_move_62 rfl ffX4_29 rfl rfl ?_
                refine Z_iload (n := 67) dX4_move_65 rfl rfl ?_
                refine Z_aload_n (n := 68) dX4_move_67 rfl rfl ?_
                refine Z_getA (n := 71) dX4_move_68 rfl ffX4_29 rfl rfl ?_
                refine Z_iload (n := 73) dX4_move_71 rfl rfl ?_
                refine Z_iload (n := 75) dX4_move_73 rfl rfl ?_
                refine Z_iadd (n := 76) dX4_move_75 rfl (by omega) ?_
                refine Z_iald (n := 77) dX4_move_76 rfl rfl rfl (by first | decide | assumption) (by omega) (by omega) (fun r76 s76 => ?_)
                refine Z_iast (n := 78) dX4_move_77 rfl rfl rfl (by first | decide | assumption) (by omega) (by omega) (by first | assumption | omega | decide) (by first | assumption | omega | decide) (by decide) ?_
                refine Z_iload (n := 80) dX4_move_78 rfl rfl ?_
                refine Z_iload (n := 82) dX4_move_80 rfl rfl ?_
                refine Z_iadd (n := 83) dX4_move_82 rfl (by omega) ?_
                refine Z_istore (L' := [_, _, _, _, _, _]) (n := 85) dX4_move_83 rfl (by decide) rfl rfl ?_
                refine Z_goto (t := 55) dX4_move_85 (by decide) ?_
                refine Z_loc (L' := [some _, some _, some _, some _, some _, some _]) (lsub_same (lsub_same (lsub_same (lsub_same (lsub_same (lsub_same lsub_nil)))))) ?_
                exact ih55 _ _ _ _ (by omega) (by first | rfl | assumption) (by first | assumption | omega | decide) (by first | assumption | omega | decide) (by first | assumption | omega | decide) (by first | exact hO | (intro w w0 w1; rw [uz_oo (by decide)]; exact i55_4 w w0 w1))
          refine Z_loc (L' := [some _, some _, some _, some _, some _, some _]) (lsub_same (lsub_same (lsub_same (lsub_same (lsub_same (lsub_same lsub_nil)))))) ?_
          exact lp55 _ _ _ _ _ (Nat.lt_succ_self _) (by first | rfl | assumption) (by first | assumption | omega | decide) (by first | assumption | omega | decide) (by first | assumption | omega | decide) (by first | exact hO | (intro w w0 w1; rw [uz_oo (by decide)]; exact i55_4 w w0 w1))
        · refine Z_iconst (n := 46) dX4_move_45 rfl (by decide) ?_
          refine Z_goto (t := 50) dX4_move_46 (by decide) ?_
          refine Z_istore (L' := [_, _, _, _, _, _]) (n := 52) dX4_move_50 rfl (by decide) rfl rfl ?_
          refine Z_iload_n (n := 53) dX4_move_52 rfl rfl ?_
          refine Z_istore (L' := [_, _, _, _, _, _]) (n := 55) dX4_move_53 rfl (by decide) rfl rfl ?_
          have lp55 : ∀ (N55 : Nat) (k s : Int) (M55 : zM) (J55 : zJ), ((p - k).natAbs) < N55 → (J55 = J) → (0 ≤ k) → (k ≤ 7) → ((s = 1 ∧ k ≤ p) ∨ (s = -1 ∧ p ≤ k)) → (rOrd M55) → TZ G mX4_move (tl_rm 1 0 0) 0 0 kMv M J 55 [some (vR 31), some (vI v), some (vI p), some (vI (M 39 v)), some (vI s), some (vI k)] [] F1 M55 J55 (ZM G (zPost G kMv F1 M J (qI (fun x M' J' => J' = J ∧ rOrd M' ∧ (((v < 0 ∨ 8 ≤ v ∨ p < 0 ∨ 8 ≤ p) ∧ x = -2) ∨ (0 ≤ v ∧ v < 8 ∧ 0 ≤ p ∧ p < 8 ∧ ((x = -3 ∧ ¬ noHr M) ∨ (x = M 39 v ∧ noHr M))))))) 0 0) := by
            intro N55
            induction N55 with
            | zero => intro k s M55 J55 hN; omega
            | succ N55 ih55 =>
              intro k s M55 J55 hN55 i55_0 i55_1 i55_2 i55_3 i55_4
              refine Z_iload (n := 57) dX4_move_55 rfl rfl ?_
              refine Z_iload_n (n := 58) dX4_move_57 rfl rfl ?_
              refine Z_icmp_eq (n := 61) (t := 88) dX4_move_58 rfl (by decide) (fun c58 => ?_) (fun c58 => ?_)
              · refine Z_aload_n (n := 89) dX4_move_88 rfl rfl ?_
                refine Z_getA (n := 92) dX4_move_89 rfl ffX4_29 rfl rfl ?_
                refine Z_iload_n (n := 93) dX4_move_92 rfl rfl ?_
                refine Z_iload_n (n := 94) dX4_move_93 rfl rfl ?_
                refine Z_iast (n := 95) dX4_move_94 rfl rfl rfl (by first | decide | assumption) (by omega) (by omega) (by first | assumption | omega | decide) (by first | assumption | omega | decide) (by decide) ?_
                refine Z_iconst (n := 96) dX4_move_95 rfl (by decide) ?_
                refine Z_istore (L' := [_, _, _, _, _, _]) (n := 98) dX4_move_96 rfl (by decide) rfl rfl ?_
                have lp98 : ∀ (N98 : Nat) (k : Int) (M98 : zM) (J98 : zJ), ((8 - k).toNat) < N98 → (J98 = J) → (0 ≤ k) → (k ≤ 8) → (rOrd M98) → TZ G mX4_move (tl_rm 1 0 0) 0 0 kMv M J 98 [some (vR 31), some (vI v), some (vI p), some (vI (M 39 v)), none, some (vI k)] [] F1 M98 J98 (ZM G (zPost G kMv F1 M J (qI (fun x M' J' => J' = J ∧ rOrd M' ∧ (((v < 0 ∨ 8 ≤ v ∨ p < 0 ∨ 8 ≤ p) ∧ x = -2) ∨ (0 ≤ v ∧ v < 8 ∧ 0 ≤ p ∧ p < 8 ∧ ((x = -3 ∧ ¬ noHr M) ∨ (x = M 39 v ∧ noHr M))))))) 0 0) := by
                  intro N98
                  induction N98 with
                  | zero => intro k M98 J98 hN; omega
                  | succ N98 ih98 =>
                    intro k M98 J98 hN98 i98_0 i98_1 i98_2 i98_3
                    refine Z_iload (n := 100) dX4_move_98 rfl rfl ?_
                    refine Z_bipush (n := 102) dX4_move_100 rfl (by decide) (by decide) ?_
                    refine Z_icmp_ge (n := 105) (t := 125) dX4_move_102 rfl (by decide) (fun c102 => ?_) (fun c102 => ?_)
                    · refine Z_iload_n (n := 126) dX4_move_125 rfl rfl ?_
                      refine Z_iret dX4_move_126 rfl ?_
                      rcases h24 with ⟨-, q⟩ | ⟨q, -⟩
                      · exact ⟨i98_0, i98_3, Or.inr ⟨by omega, by omega, by omega, by omega, Or.inr ⟨rfl, q⟩⟩⟩
                      · omega
                    · refine Z_aload_n (n := 106) dX4_move_105 rfl rfl ?_
                      refine Z_getA (n := 109) dX4_move_106 rfl ffX4_32 rfl rfl ?_
                      refine Z_aload_n (n := 110) dX4_move_109 rfl rfl ?_
                      refine Z_getA (n := 113) dX4_move_110 rfl ffX4_29 rfl rfl ?_
                      refine Z_iload (n := 115) dX4_move_113 rfl rfl ?_
                      refine Z_iald (n := 116) dX4_move_115 rfl rfl rfl (by first | decide | assumption) (by omega) (by omega) (fun r115 s115 => ?_)
                      refine Z_iload (n := 118) dX4_move_116 rfl rfl ?_
                      refine Z_iast (n := 119) dX4_move_118 rfl rfl rfl (by first | decide | assumption) (by omega) (by omega) (by first | assumption | omega | decide) (by first | assumption | omega | decide) (by decide) ?_
                      refine Z_iinc (L' := [_, _, _, _, _, _]) (n := 122) dX4_move_119 rfl rfl (by decide) rfl rfl (by omega) rfl ?_
                      refine Z_goto (t := 98) dX4_move_122 (by decide) ?_
                      refine Z_loc (L' := [some _, some _, some _, some _, none, some _]) (lsub_same (lsub_same (lsub_same (lsub_same (lsub_none (lsub_same lsub_nil)))))) ?_
                      exact ih98 _ _ _ (by omega) (by first | rfl | assumption) (by first | assumption | omega | decide) (by first | assumption | omega | decide) (by first | (intro w w0 w1; rw [uz_oo (by decide)]; exact i55_4 w w0 w1) | (intro w w0 w1; rw [uz_a]; have := i98_3 w w0 w1; split <;> omega))
                refine Z_loc (L' := [some _, some _, some _, some _, none, some _]) (lsub_same (lsub_same (lsub_same (lsub_same (lsub_none (lsub_same lsub_nil)))))) ?_
                exact lp98 _ _ _ _ (Nat.lt_succ_self _) (by first | rfl | assumption) (by first | assumption | omega | decide) (by first | assumption | omega | decide) (by first | (intro w w0 w1; rw [uz_oo (by decide)]; exact i55_4 w w0 w1) | (intro w w0 w1; rw [uz_a]; have := i98_3 w w0 w1; split <;> omega))
              · refine Z_aload_n (n := 62) dX4_move_61 rfl rfl ?_
                refine Z_getA (n := 65) dX4_move_62 rfl ffX4_29 rfl rfl ?_
                refine Z_iload (n := 67) dX4_move_65 rfl rfl ?_
                refine Z_aload_n (n := 68) dX4_move_67 rfl rfl ?_
                refine Z_getA (n := 71) dX4_move_68 rfl ffX4_29 rfl rfl ?_
                refine Z_iload (n := 73) dX4_move_71 rfl rfl ?_
                refine Z_iload (n := 75) dX4_move_73 rfl rfl ?_
                refine Z_iadd (n := 76) dX4_move_75 rfl (by omega) ?_
                refine Z_iald (n := 77) dX4_move_76 rfl rfl rfl (by first | decide | assumption) (by omega) (by omega) (fun r76 s76 => ?_)
                refine Z_iast (n := 78) dX4_move_77 rfl rfl rfl (by first | decide | assumption) (by omega) (by omega) (by first | assumption | omega | decide) (by first | assumption | omega | decide) (by decide) ?_
                refine Z_iload (n := 80) dX4_move_78 rfl rfl ?_
                refine Z_iload (n := 82) dX4_move_80 rfl rfl ?_
                refine Z_iadd (n := 83) dX4_move_82 rfl (by omega) ?_
                refine Z_istore (L' := [_, _, _, _, _, _]) (n := 85) dX4_move_83 rfl (by decide) rfl rfl ?_
                refine Z_goto (t := 55) dX4_move_85 (by decide) ?_
                refine Z_loc (L' := [some _, some _, some _, some _, some _, some _]) (lsub_same (lsub_same (lsub_same (lsub_same (lsub_same (lsub_same lsub_nil)))))) ?_
                exact ih55 _ _ _ _ (by omega) (by first | rfl | assumption) (by first | assumption | omega | decide) (by first | assumption | omega | decide) (by first | assumption | omega | decide) (by first | exact hO | (intro w w0 w1; rw [uz_oo (by decide)]; exact i55_4 w w0 w1))
          refine Z_loc (L' := [some _, some _, some _, some _, some _, some _]) (lsub_same (lsub_same (lsub_same (lsub_same (lsub_same (lsub_same lsub_nil)))))) ?_
          exact lp55 _ _ _ _ _ (Nat.lt_succ_self _) (by first | rfl | assumption) (by first | assumption | omega | decide) (by first | assumption | omega | decide) (by first | assumption | omega | decide) (by first | exact hO | (intro w w0 w1; rw [uz_oo (by decide)]; exact i55_4 w w0 w1))
      · refine Z_bipush (n := 32) dX4_move_30 rfl (by decide) (by decide) ?_
        refine Z_iret dX4_move_32 rfl ?_
        rcases h24 with ⟨q, -⟩ | ⟨-, q, q0, q1, q2⟩
        · omega
        · exact ⟨rfl, hO, Or.inr ⟨by omega, by omega, by omega, by omega, Or.inl ⟨rfl, fun e => q2 (e q q0 q1)⟩⟩⟩
    · refine Z_bipush (n := 22) dX4_move_20 rfl (by decide) (by decide) ?_
      refine Z_iret dX4_move_22 rfl ?_
      exact ⟨rfl, hO, Or.inl ⟨by omega, rfl⟩⟩
set_option maxRecDepth 20000 in
theorem zX4_noHalf {G : tl_G} {M : zM} {J : zJ} {h f v : Int}  : ZN G yX4_noHalf mX4_noHalf 3 kAll [vR 31, vI h, vI f, vI v] F1 M J (qI (fun x M' J' => M' = M ∧ J' = J ∧ (((h < 0 ∨ 12 ≤ h ∨ f < 0 ∨ 12 ≤ f ∨ M 43 f = 0) ∧ x = -1) ∨ (0 ≤ h ∧ h < 12 ∧ 0 ≤ f ∧ f < 12 ∧ ¬ M 43 f = 0 ∧ ((0 ≤ v ∧ v < 8 ∧ x = 0) ∨ ((v < 0 ∨ 8 ≤ v) ∧ x = -2)))))) := by
  refine ZN_of (L := [_, _, _, _]) (by decide) rfl rfl (Nat.le_of_ble_eq_true rfl) rfl (fun hav => ?_)
  refine Z_iload_n (n := 1) dX4_noHalf_0 rfl rfl ?_
  refine Z_callSi (n := 4) [_] _ dX4_noHalf_1 rfl cwX4_210 rfl rfl (Nat.le_of_ble_eq_true rfl) (by refine ⟨?_, ?_, ?_, ?_⟩ <;> exact Nat.le_of_ble_eq_true rfl) (fun _ h => h) (zX4_isHandle  ) ?_
  intro x1 M1 J1 z1 f1 q1
  obtain ⟨e1_1, e1_2, h1⟩ := q1
  replace e1_1 := e1_1.symm; subst e1_1
  replace e1_2 := e1_2.symm; subst e1_2
  refine Z_if_eq (n := 7) (t := 15) dX4_noHalf_4 rfl (by decide) (fun c4 => ?_) (fun c4 => ?_)
  · refine Z_iconst (n := 16) dX4_noHalf_15 rfl (by decide) ?_
    refine Z_goto (t := 35) dX4_noHalf_16 (by decide) ?_
    refine Z_iret dX4_noHalf_35 rfl ?_
    refine ⟨rfl, rfl, ?_⟩; omega
  · refine Z_aload_n (n := 8) dX4_noHalf_7 rfl rfl ?_
    refine Z_iload_n (n := 9) dX4_noHalf_8 rfl rfl ?_
    refine Z_callVi (n := 12) [_] _ dX4_noHalf_9 rfl cwX4_223 rfl rfl rfl (Nat.le_of_ble_eq_true rfl) (by refine ⟨?_, ?_, ?_, ?_⟩ <;> exact Nat.le_of_ble_eq_true rfl) (fun _ h => h) (zX4_isFunction  ) ?_
    intro x9 M9 J9 z9 f9 q9
    obtain ⟨e9_1, e9_2, h9⟩ := q9
    replace e9_1 := e9_1.symm; subst e9_1
    replace e9_2 := e9_2.symm; subst e9_2
    refine Z_if_ne (n := 15) (t := 19) dX4_noHalf_12 rfl (by decide) (fun c12 => ?_) (fun c12 => ?_)
    · refine Z_iload_n (n := 20) dX4_noHalf_19 rfl rfl ?_
      refine Z_iconst (n := 21) dX4_noHalf_20 rfl (by decide) ?_
      refine Z_bipush (n := 23) dX4_noHalf_21 rfl (by decide) (by decide) ?_
      refine Z_callSi (n := 26) [_, _, _] _ dX4_noHalf_23 rfl cwX4_112 rfl rfl (Nat.le_of_ble_eq_true rfl) (by refine ⟨?_, ?_, ?_, ?_⟩ <;> exact Nat.le_of_ble_eq_true rfl) (fun _ h => h) (zX4_in  ) ?_
      intro x23 M23 J23 z23 f23 q23
      obtain ⟨e23_1, e23_2, h23⟩ := q23
      replace e23_1 := e23_1.symm; subst e23_1
      replace e23_2 := e23_2.symm; subst e23_2
      refine Z_if_eq (n := 29) (t := 33) dX4_noHalf_26 rfl (by decide) (fun c26 => ?_) (fun c26 => ?_)
      · refine Z_bipush (n := 35) dX4_noHalf_33 rfl (by decide) (by decide) ?_
        refine Z_iret dX4_noHalf_35 rfl ?_
        refine ⟨rfl, rfl, ?_⟩; omega
      · refine Z_iconst (n := 30) dX4_noHalf_29 rfl (by decide) ?_
        refine Z_goto (t := 35) dX4_noHalf_30 (by decide) ?_
        refine Z_iret dX4_noHalf_35 rfl ?_
        refine ⟨rfl, rfl, ?_⟩; omega
    · refine Z_iconst (n := 16) dX4_noHalf_15 rfl (by decide) ?_
      refine Z_goto (t := 35) dX4_noHalf_16 (by decide) ?_
      refine Z_iret dX4_noHalf_35 rfl ?_
      refine ⟨rfl, rfl, ?_⟩; omega
set_option maxRecDepth 20000 in
theorem zX4_parting {G : tl_G} {M : zM} {J : zJ} {w : Int}  : ZN G yX4_parting mX4_parting 0 kAll [vR 31, vI w] F1 M J (qI (fun x M' J' => M' = M ∧ J' = J ∧ ((w = 0 ∧ x = M 31 33) ∨ (w = 1 ∧ x = M 31 34) ∨ ((w < 0 ∨ 1 < w) ∧ x = -2)))) := by
  refine ZN_of (L := [_, _]) (by decide) rfl rfl (Nat.le_of_ble_eq_true rfl) rfl (fun hav => ?_)
  refine Z_iload_n (n := 1) dX4_parting_0 rfl rfl ?_
  refine Z_if_ne (n := 4) (t := 11) dX4_parting_1 rfl (by decide) (fun c1 => ?_) (fun c1 => ?_)
  · refine Z_iload_n (n := 12) dX4_parting_11 rfl rfl ?_
    refine Z_iconst (n := 13) dX4_parting_12 rfl (by decide) ?_
    refine Z_icmp_ne (n := 16) (t := 23) dX4_parting_13 rfl (by decide) (fun c13 => ?_) (fun c13 => ?_)
    · refine Z_bipush (n := 25) dX4_parting_23 rfl (by decide) (by decide) ?_
      refine Z_iret dX4_parting_25 rfl ?_
      refine ⟨rfl, rfl, ?_⟩; omega
    · refine Z_aload_n (n := 17) dX4_parting_16 rfl rfl ?_
      refine Z_getI (n := 20) (ki := 34) dX4_parting_17 rfl ffX4_109 rfl rfl rfl (fun r17 s17 => ?_)
      refine Z_goto (t := 25) dX4_parting_20 (by decide) ?_
      refine Z_iret dX4_parting_25 rfl ?_
      refine ⟨rfl, rfl, ?_⟩; omega
  · refine Z_aload_n (n := 5) dX4_parting_4 rfl rfl ?_
    refine Z_getI (n := 8) (ki := 33) dX4_parting_5 rfl ffX4_106 rfl rfl rfl (fun r5 s5 => ?_)
    refine Z_goto (t := 25) dX4_parting_8 (by decide) ?_
    refine Z_iret dX4_parting_25 rfl ?_
    refine ⟨rfl, rfl, ?_⟩; omega
def hr (f : Int → Int) : Nat → Int
  | 0 => 0
  | n + 1 => hr f n + (if f (n : Int) = 0 then 0 else 1)
theorem hr_up (f : Int → Int) {i : Int} (h : 0 ≤ i) : hr f (i + 1).toNat = hr f i.toNat + (if f i = 0 then 0 else 1) := by
  rw [show (i + 1).toNat = i.toNat + 1 by omega]
  show hr f i.toNat + (if f (i.toNat : Int) = 0 then 0 else 1) = _
  rw [Int.toNat_of_nonneg h]
theorem hr_in (f : Int → Int) : ∀ n : Nat, 0 ≤ hr f n ∧ hr f n ≤ n
  | 0 => by simp [hr]
  | n + 1 => by
    have h := hr_in f n
    unfold hr
    split <;> omega
theorem hr_zero {f : Int → Int} : ∀ {n : Nat}, (∀ h : Int, 0 ≤ h → h < n → f h = 0) → hr f n = 0
  | 0, _ => rfl
  | n + 1, h => by
    unfold hr
    rw [hr_zero (n := n) (fun k h0 h1 => h k h0 (by omega)), if_pos (h n (by omega) (by omega))]
    rfl
set_option maxRecDepth 20000 in
theorem zX4_told {G : tl_G} {M : zM} {J : zJ} {w : Int}  : ZN G yX4_told mX4_told 1 kAll [vR 31, vI w] F1 M J (qI (fun x M' J' => M' = M ∧ J' = J ∧ (((w < 0 ∨ 7 < w) ∧ x = -2) ∨ (0 ≤ w ∧ w < 3 ∧ x = M 32 w) ∨ (3 ≤ w ∧ w < 6 ∧ x = M 33 (w - 3)) ∨ (w = 6 ∧ x = hr (M 43) 12) ∨ (w = 7 ∧ x = M 31 8)))) := by
  refine ZN_of (L := [_, _, _, _]) (by decide) rfl rfl (Nat.le_of_ble_eq_true rfl) rfl (fun hav => ?_)
  refine Z_iload_n (n := 1) dX4_told_0 rfl rfl ?_
  refine Z_iconst (n := 2) dX4_told_1 rfl (by decide) ?_
  refine Z_bipush (n := 4) dX4_told_2 rfl (by decide) (by decide) ?_
  refine Z_callSi (n := 7) [_, _, _] _ dX4_told_4 rfl cwX4_112 rfl rfl (Nat.le_of_ble_eq_true rfl) (by refine ⟨?_, ?_, ?_, ?_⟩ <;> exact Nat.le_of_ble_eq_true rfl) (fun _ h => h) (zX4_in  ) ?_
  intro x4 M4 J4 z4 f4 q4
  obtain ⟨e4_1, e4_2, h4⟩ := q4
  replace e4_1 := e4_1.symm; subst e4_1
  replace e4_2 := e4_2.symm; subst e4_2
  refine Z_if_ne (n := 10) (t := 13) dX4_told_7 rfl (by decide) (fun c7 => ?_) (fun c7 => ?_)
  · refine Z_iload_n (n := 14) dX4_told_13 rfl rfl ?_
    refine Z_bipush (n := 16) dX4_told_14 rfl (by decide) (by decide) ?_
    refine Z_icmp_ge (n := 19) (t := 42) dX4_told_16 rfl (by decide) (fun c16 => ?_) (fun c16 => ?_)
    · refine Z_iconst (n := 43) dX4_told_42 rfl (by decide) ?_
      refine Z_istore_n (L' := [_, _, _, _]) (n := 44) dX4_told_43 rfl (by decide) rfl rfl ?_
      refine Z_iconst (n := 45) dX4_told_44 rfl (by decide) ?_
      refine Z_istore_n (L' := [_, _, _, _]) (n := 46) dX4_told_45 rfl (by decide) rfl rfl ?_
      have lp46 : ∀ (N46 : Nat) (n i : Int) , ((12 - i).toNat) < N46 → (0 ≤ i) → (i ≤ 12) → (n = hr (M 43) i.toNat) → TZ G mX4_told (tl_rm 1 0 0) 0 0 kAll M J 46 [some (vR 31), some (vI w), some (vI n), some (vI i)] [] F1 M J (ZM G (zPost G kAll F1 M J (qI (fun x M' J' => M' = M ∧ J' = J ∧ (((w < 0 ∨ 7 < w) ∧ x = -2) ∨ (0 ≤ w ∧ w < 3 ∧ x = M 32 w) ∨ (3 ≤ w ∧ w < 6 ∧ x = M 33 (w - 3)) ∨ (w = 6 ∧ x = hr (M 43) 12) ∨ (w = 7 ∧ x = M 31 8))))) 0 0) := by
        intro N46
        induction N46 with
        | zero => intro n i  hN; omega
        | succ N46 ih46 =>
          intro n i  hN46 i46_0 i46_1 i46_2
          refine Z_iload_n (n := 47) dX4_told_46 rfl rfl ?_
          refine Z_bipush (n := 49) dX4_told_47 rfl (by decide) (by decide) ?_
          refine Z_icmp_ge (n := 52) (t := 75) dX4_told_49 rfl (by decide) (fun c49 => ?_) (fun c49 => ?_)
          · refine Z_iload_n (n := 76) dX4_told_75 rfl rfl ?_
            refine Z_bipush (n := 78) dX4_told_76 rfl (by decide) (by decide) ?_
            refine Z_icmp_ne (n := 81) (t := 85) dX4_told_78 rfl (by decide) (fun c78 => ?_) (fun c78 => ?_)
            · refine Z_aload_n (n := 86) dX4_told_85 rfl rfl ?_
              refine Z_getI (n := 89) (ki := 8) dX4_told_86 rfl ffX4_102 rfl rfl rfl (fun r86 s86 => ?_)
              refine Z_iret dX4_told_89 rfl ?_
              first | exact ⟨rfl, rfl, Or.inr (Or.inr (Or.inr (Or.inr ⟨by omega, rfl⟩)))⟩ | (refine ⟨rfl, rfl, Or.inr (Or.inr (Or.inr (Or.inl ⟨by omega, ?_⟩)))⟩; rw [i46_2, show i = 12 by omega]; rfl)
            · refine Z_iload_n (n := 82) dX4_told_81 rfl rfl ?_
              refine Z_goto (t := 89) dX4_told_82 (by decide) ?_
              refine Z_iret dX4_told_89 rfl ?_
              first | exact ⟨rfl, rfl, Or.inr (Or.inr (Or.inr (Or.inr ⟨by omega, rfl⟩)))⟩ | (refine ⟨rfl, rfl, Or.inr (Or.inr (Or.inr (Or.inl ⟨by omega, ?_⟩)))⟩; rw [i46_2, show i = 12 by omega]; rfl)
          · refine Z_iload_n (n := 53) dX4_told_52 rfl rfl ?_
            refine Z_aload_n (n := 54) dX4_told_53 rfl rfl ?_
            refine Z_getA (n := 57) dX4_told_54 rfl ffX4_44 rfl rfl ?_
            refine Z_iload_n (n := 58) dX4_told_57 rfl rfl ?_
            refine Z_zald (n := 59) dX4_told_58 rfl rfl rfl (by first | decide | assumption) (by omega) (by omega) (fun r58 s58 => ?_)
            refine Z_if_eq (n := 62) (t := 66) dX4_told_59 rfl (by decide) (fun c59 => ?_) (fun c59 => ?_)
            · refine Z_iconst (n := 67) dX4_told_66 rfl (by decide) ?_
              have hrin := hr_in (M 43) i.toNat
              refine Z_iadd (n := 68) dX4_told_67 rfl (by omega) ?_
              refine Z_istore_n (L' := [_, _, _, _]) (n := 69) dX4_told_68 rfl (by decide) rfl rfl ?_
              refine Z_iinc (L' := [_, _, _, _]) (n := 72) dX4_told_69 rfl rfl (by decide) rfl rfl (by omega) rfl ?_
              refine Z_goto (t := 46) dX4_told_72 (by decide) ?_
              refine Z_loc (L' := [some _, some _, some _, some _]) (lsub_same (lsub_same (lsub_same (lsub_same lsub_nil)))) ?_
              exact ih46 _ _  (by omega) (by first | assumption | omega | decide) (by first | assumption | omega | decide) (by first | rfl | (rw [hr_up _ (by assumption)]; subst i46_2; first | rw [if_pos (by assumption)] | rw [if_neg (by assumption)]))
            · refine Z_iconst (n := 63) dX4_told_62 rfl (by decide) ?_
              refine Z_goto (t := 67) dX4_told_63 (by decide) ?_
              have hrin := hr_in (M 43) i.toNat
              refine Z_iadd (n := 68) dX4_told_67 rfl (by omega) ?_
              refine Z_istore_n (L' := [_, _, _, _]) (n := 69) dX4_told_68 rfl (by decide) rfl rfl ?_
              refine Z_iinc (L' := [_, _, _, _]) (n := 72) dX4_told_69 rfl rfl (by decide) rfl rfl (by omega) rfl ?_
              refine Z_goto (t := 46) dX4_told_72 (by decide) ?_
              refine Z_loc (L' := [some _, some _, some _, some _]) (lsub_same (lsub_same (lsub_same (lsub_same lsub_nil)))) ?_
              exact ih46 _ _  (by omega) (by first | assumption | omega | decide) (by first | assumption | omega | decide) (by first | rfl | (rw [hr_up _ (by assumption)]; subst i46_2; first | rw [if_pos (by assumption)] | rw [if_neg (by assumption)]))
      refine Z_loc (L' := [some _, some _, some _, some _]) (lsub_same (lsub_same (lsub_same (lsub_same lsub_nil)))) ?_
      exact lp46 _ _ _  (Nat.lt_succ_self _) (by first | assumption | omega | decide) (by first | assumption | omega | decide) (by first | rfl | (rw [hr_up _ (by assumption)]; subst i46_2; first | rw [if_pos (by assumption)] | rw [if_neg (by assumption)]))
    · refine Z_iload_n (n := 20) dX4_told_19 rfl rfl ?_
      refine Z_iconst (n := 21) dX4_told_20 rfl (by decide) ?_
      refine Z_icmp_ge (n := 24) (t := 33) dX4_told_21 rfl (by decide) (fun c21 => ?_) (fun c21 => ?_)
      · refine Z_aload_n (n := 34) dX4_told_33 rfl rfl ?_
        refine Z_getA (n := 37) dX4_told_34 rfl ffX4_13 rfl rfl ?_
        refine Z_iload_n (n := 38) dX4_told_37 rfl rfl ?_
        refine Z_iconst (n := 39) dX4_told_38 rfl (by decide) ?_
        refine Z_isub (n := 40) dX4_told_39 rfl (by omega) ?_
        refine Z_iald (n := 41) dX4_told_40 rfl rfl rfl (by first | decide | assumption) (by omega) (by omega) (fun r40 s40 => ?_)
        refine Z_iret dX4_told_41 rfl ?_
        refine ⟨rfl, rfl, ?_⟩; omega
      · refine Z_aload_n (n := 25) dX4_told_24 rfl rfl ?_
        refine Z_getA (n := 28) dX4_told_25 rfl ffX4_7 rfl rfl ?_
        refine Z_iload_n (n := 29) dX4_told_28 rfl rfl ?_
        refine Z_iald (n := 30) dX4_told_29 rfl rfl rfl (by first | decide | assumption) (by omega) (by omega) (fun r29 s29 => ?_)
        refine Z_goto (t := 41) dX4_told_30 (by decide) ?_
        refine Z_iret dX4_told_41 rfl ?_
        refine ⟨rfl, rfl, ?_⟩; omega
  · refine Z_bipush (n := 12) dX4_told_10 rfl (by decide) (by decide) ?_
    refine Z_iret dX4_told_12 rfl ?_
    refine ⟨rfl, rfl, ?_⟩; omega
set_option maxRecDepth 20000 in
theorem zX4_begin {G : tl_G} {M : zM} {J : zJ} {K : Nat → Prop} (hK : ¬ K 31) : ZN G yX4_begin mX4_begin 0 K [vR 31] F1 M J (qV (fun M' J' => J' = J ∧ M' = uz M 31 25 0)) := by
  refine ZN_of (L := [_]) (by decide) rfl rfl (Nat.le_of_ble_eq_true rfl) rfl (fun hav => ?_)
  refine Z_aload_n (n := 1) dX4_begin_0 rfl rfl ?_
  refine Z_iconst (n := 2) dX4_begin_1 rfl (by decide) ?_
  refine Z_putI (n := 5) (ki := 25) dX4_begin_2 rfl ffX4_176 rfl (by decide) rfl rfl (by first | assumption | omega | decide) (by first | assumption | omega | decide) (by assumption) ?_
  refine Z_vret dX4_begin_5 rfl ?_
  exact ⟨rfl, rfl⟩
set_option maxRecDepth 20000 in
theorem zX4_inUse {G : tl_G} {M : zM} {J : zJ}   : ZN G yX4_inUse mX4_inUse 0 kAll [vR 31] F1 M J (qI (fun x M' J' => M' = M ∧ J' = J ∧ x = M 31 24)) := by
  refine ZN_of (L := [_]) (by decide) rfl rfl (Nat.le_of_ble_eq_true rfl) rfl (fun hav => ?_)
  refine Z_aload_n (n := 1) dX4_inUse_0 rfl rfl ?_
  refine Z_getI (n := 4) (ki := 24) dX4_inUse_1 rfl ffX4_149 rfl rfl rfl (fun r1 s1 => ?_)
  refine Z_iret dX4_inUse_4 rfl ?_
  exact ⟨rfl, rfl, rfl⟩
set_option maxRecDepth 20000 in
theorem zX4_peak {G : tl_G} {M : zM} {J : zJ}   : ZN G yX4_peak mX4_peak 0 kAll [vR 31] F1 M J (qI (fun x M' J' => M' = M ∧ J' = J ∧ x = M 31 25)) := by
  refine ZN_of (L := [_]) (by decide) rfl rfl (Nat.le_of_ble_eq_true rfl) rfl (fun hav => ?_)
  refine Z_aload_n (n := 1) dX4_peak_0 rfl rfl ?_
  refine Z_getI (n := 4) (ki := 25) dX4_peak_1 rfl ffX4_176 rfl rfl rfl (fun r1 s1 => ?_)
  refine Z_iret dX4_peak_4 rfl ?_
  exact ⟨rfl, rfl, rfl⟩
