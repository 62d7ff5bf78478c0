/-! ===== Net ===== -/
abbrev kOf (b a : Nat) : Prop := ¬ a = b + 4
abbrev kLN (a : Nat) : Prop := ¬ a = 14
abbrev kGo (b a : Nat) : Prop := ¬ a = b + 4 ∧ (a < 2 ∨ 4 < a)
/-- a net's gates look at gates before them; its outputs are gates -/
def netOK (M : zM) (b : Nat) : Prop := (∀ g : Int, 0 ≤ g → g < M b 4 → (∀ i : Int, 0 ≤ i → i < opF (M (b + 1) g) → 0 ≤ M (b + 2) (3 * g + i) ∧ M (b + 2) (3 * g + i) < g) ∧ (M (b + 1) g = 0 → 0 ≤ M (b + 2) (3 * g) ∧ M (b + 2) (3 * g) < 8)) ∧ ∀ o : Int, 0 ≤ o → o < M b 5 → 0 ≤ M (b + 3) o ∧ M (b + 3) o < M b 4
theorem netOK_fr {M M' : zM} {b : Nat} (h : netOK M b) (h0 : M' b = M b) (h1 : M' (b + 1) = M (b + 1)) (h2 : M' (b + 2) = M (b + 2)) (h3 : M' (b + 3) = M (b + 3)) : netOK M' b := by
  unfold netOK
  rw [h0, h1, h2, h3]
  exact h
theorem oMet_fr {M M' : zM} (h : oMet M) (h2 : M' 2 = M 2) (h4 : M' 4 = M 4) : oMet M' := by
  unfold oMet
  rw [h2, h4]
  exact h
set_option maxRecDepth 20000 in
theorem zX0_gateValue {G : tl_G} {M : zM} {J : zJ} {b : Nat} {g a : Int} (hb : NetAt b) (hN : netOK M b) (h0 : 0 ≤ g) (h1 : g < M b 4) : ZN G yX0_gateValue mX0_gateValue 1 kAll [vR b, vI g, vI a] F1 M J (qI (fun x M' J' => M' = M ∧ J' = J ∧ 0 ≤ x ∧ x ≤ 1)) := by
  refine ZN_of (L := [_, _, _, _, _, _]) (by decide) rfl rfl (Nat.le_of_ble_eq_true rfl) rfl (fun hav => ?_)
  refine Z_rg b 4 (nTg hb) (fun g4 g4b => ?_)
  refine Z_aload_n (n := 1) dX0_gateValue_0 rfl rfl ?_
  refine Z_getA (n := 4) dX0_gateValue_1 rfl ffX0_9 (by first | exact nS0 hb | exact nS1 hb | exact nS2 hb | exact nS3 hb | exact nS4 hb | exact nP0 hb | exact nP1 hb | exact nP2 hb | exact nP3 hb | rfl) (by first | exact nS0 hb | exact nS1 hb | exact nS2 hb | exact nS3 hb | exact nS4 hb | exact nP0 hb | exact nP1 hb | exact nP2 hb | exact nP3 hb | rfl) ?_
  refine Z_iload_n (n := 5) dX0_gateValue_4 rfl rfl ?_
  refine Z_iald (n := 6) dX0_gateValue_5 rfl (by first | exact nS0 hb | exact nS1 hb | exact nS2 hb | exact nS3 hb | exact nS4 hb | exact nP0 hb | exact nP1 hb | exact nP2 hb | exact nP3 hb | rfl) (by first | exact nTg hb | exact nTo hb | exact nT1 hb | exact nT2 hb | exact nT3 hb | exact nT4 hb | rfl) (by first | decide | assumption) (by omega) (by omega) (fun r5 s5 => ?_)
  refine Z_istore_n (L' := [_, _, _, _, _, _]) (n := 7) dX0_gateValue_6 rfl (by decide) rfl rfl ?_
  refine Z_iload_n (n := 8) dX0_gateValue_7 rfl rfl ?_
  refine Z_if_ne (n := 11) (t := 22) dX0_gateValue_8 rfl (by decide) (fun c8 => ?_) (fun c8 => ?_)
  · refine Z_iconst (n := 23) dX0_gateValue_22 rfl (by decide) ?_
    refine Z_istore (L' := [_, _, _, _, _, _]) (n := 25) dX0_gateValue_23 rfl (by decide) rfl rfl ?_
    refine Z_iconst (n := 26) dX0_gateValue_25 rfl (by decide) ?_
    refine Z_istore (L' := [_, _, _, _, _, _]) (n := 28) dX0_gateValue_26 rfl (by decide) rfl rfl ?_
    have lp28 : ∀ (N28 : Nat) (c i : Int) , ((3 - i).toNat) < N28 → (0 ≤ i) → (i ≤ 3) → TZ G mX0_gateValue (tl_rm 1 0 0) 0 0 kAll M J 28 [some (vR b), some (vI g), some (vI a), some (vI (M (b + 1) g)), some (vI c), some (vI i)] [] F1 M J (ZM G (zPost G kAll F1 M J (qI (fun x M' J' => M' = M ∧ J' = J ∧ 0 ≤ x ∧ x ≤ 1))) 0 0) := by
      intro N28
      induction N28 with
      | zero => intro c i  hN; omega
      | succ N28 ih28 =>
        intro c i  hN28 i28_0 i28_1
        refine Z_iload (n := 30) dX0_gateValue_28 rfl rfl ?_
        refine Z_getsN (i := 1) (n := 33) dX0_gateValue_30 rfl (by decide) (by decide) rfl rfl ?_
        refine Z_iload_n (n := 34) dX0_gateValue_33 rfl rfl ?_
        refine Z_ialdS1 (n := 35) dX0_gateValue_34 rfl (by omega) (by omega) (fun r34 s34 => ?_)
        refine Z_icmp_ge (n := 38) (t := 64) dX0_gateValue_35 rfl (by decide) (fun c35 => ?_) (fun c35 => ?_)
        · refine Z_getsN (i := 2) (n := 67) dX0_gateValue_64 rfl (by decide) (by decide) rfl rfl ?_
          refine Z_iload_n (n := 68) dX0_gateValue_67 rfl rfl ?_
          refine Z_ialdS2 (n := 69) dX0_gateValue_68 rfl (by omega) (by omega) (fun r68 s68 => ?_)
          refine Z_iload (n := 71) dX0_gateValue_69 rfl rfl ?_
          refine Z_ishr (n := 72) dX0_gateValue_71 rfl ?_
          refine Z_iconst (n := 73) dX0_gateValue_72 rfl (by decide) ?_
          refine Z_iand (n := 74) dX0_gateValue_73 rfl ?_
          refine Z_iret dX0_gateValue_74 rfl ?_
          have hz := zand_1 (zshr (tabF (M (b + 1) g)) c)
          refine ⟨rfl, rfl, ?_⟩; omega
        · refine Z_iload (n := 40) dX0_gateValue_38 rfl rfl ?_
          refine Z_aload_n (n := 41) dX0_gateValue_40 rfl rfl ?_
          refine Z_getA (n := 44) dX0_gateValue_41 rfl ffX0_21 (by first | exact nS0 hb | exact nS1 hb | exact nS2 hb | exact nS3 hb | exact nS4 hb | exact nP0 hb | exact nP1 hb | exact nP2 hb | exact nP3 hb | rfl) (by first | exact nS0 hb | exact nS1 hb | exact nS2 hb | exact nS3 hb | exact nS4 hb | exact nP0 hb | exact nP1 hb | exact nP2 hb | exact nP3 hb | rfl) ?_
          refine Z_aload_n (n := 45) dX0_gateValue_44 rfl rfl ?_
          refine Z_iload_n (n := 46) dX0_gateValue_45 rfl rfl ?_
          refine Z_iload (n := 48) dX0_gateValue_46 rfl rfl ?_
          refine Z_callVi (n := 51) [_, _] _ dX0_gateValue_48 rfl cwX0_42 rfl rfl (by first | exact nS0 hb | exact nS1 hb | exact nS2 hb | exact nS3 hb | exact nS4 hb | exact nP0 hb | exact nP1 hb | exact nP2 hb | exact nP3 hb | rfl) (Nat.le_of_ble_eq_true rfl) (by refine ⟨?_, ?_, ?_, ?_⟩ <;> exact Nat.le_of_ble_eq_true rfl) (fun _ h => h) (zX0_operand  (by first | assumption | omega | decide) (by first | assumption | omega | decide) (by first | assumption | omega | decide) (by first | assumption | omega | decide) (by first | assumption | omega | decide)) ?_
          intro x48 M48 J48 z48 f48 q48
          obtain ⟨e48_1, e48_2, h48⟩ := q48
          replace e48_1 := e48_1.symm; subst e48_1
          replace e48_2 := e48_2.symm; subst e48_2
          have hop := (hN.1 g h0 h1).1 i (by omega) (by omega)
          rw [← h48] at hop
          refine Z_iald (n := 52) dX0_gateValue_51 rfl (by first | exact nS0 hb | exact nS1 hb | exact nS2 hb | exact nS3 hb | exact nS4 hb | exact nP0 hb | exact nP1 hb | exact nP2 hb | exact nP3 hb | rfl) (by first | exact nTg hb | exact nTo hb | exact nT1 hb | exact nT2 hb | exact nT3 hb | exact nT4 hb | rfl) (by first | decide | assumption) (by omega) (by omega) (fun r51 s51 => ?_)
          refine Z_iload (n := 54) dX0_gateValue_52 rfl rfl ?_
          refine Z_ishl (n := 55) dX0_gateValue_54 rfl ?_
          refine Z_ior (n := 56) dX0_gateValue_55 rfl ?_
          refine Z_istore (L' := [_, _, _, _, _, _]) (n := 58) dX0_gateValue_56 rfl (by decide) rfl rfl ?_
          refine Z_iinc (L' := [_, _, _, _, _, _]) (n := 61) dX0_gateValue_58 rfl rfl (by decide) rfl rfl (by omega) rfl ?_
          refine Z_goto (t := 28) dX0_gateValue_61 (by decide) ?_
          refine Z_loc (L' := [some _, some _, some _, some _, some _, some _]) (lsub_same (lsub_same (lsub_same (lsub_same (lsub_same (lsub_same lsub_nil)))))) ?_
          exact ih28 _ _  (by omega) (by first | assumption | omega | decide) (by first | assumption | omega | decide)
    refine Z_loc (L' := [some _, some _, some _, some _, some _, some _]) (lsub_same (lsub_same (lsub_same (lsub_same (lsub_same (lsub_same lsub_nil)))))) ?_
    exact lp28 _ _ _  (Nat.lt_succ_self _) (by first | assumption | omega | decide) (by first | assumption | omega | decide)
  · refine Z_iload_n (n := 12) dX0_gateValue_11 rfl rfl ?_
    refine Z_aload_n (n := 13) dX0_gateValue_12 rfl rfl ?_
    refine Z_iload_n (n := 14) dX0_gateValue_13 rfl rfl ?_
    refine Z_iconst (n := 15) dX0_gateValue_14 rfl (by decide) ?_
    have ho0 := (hN.1 g h0 h1).2 (by omega)
    refine Z_callVi (n := 18) [_, _] _ dX0_gateValue_15 rfl cwX0_42 rfl rfl (by first | exact nS0 hb | exact nS1 hb | exact nS2 hb | exact nS3 hb | exact nS4 hb | exact nP0 hb | exact nP1 hb | exact nP2 hb | exact nP3 hb | rfl) (Nat.le_of_ble_eq_true rfl) (by refine ⟨?_, ?_, ?_, ?_⟩ <;> exact Nat.le_of_ble_eq_true rfl) (fun _ h => h) (zX0_operand  (by first | assumption | omega | decide) (by first | assumption | omega | decide) (by first | assumption | omega | decide) (by first | assumption | omega | decide) (by first | assumption | omega | decide)) ?_
    intro x15 M15 J15 z15 f15 q15
    obtain ⟨e15_1, e15_2, h15⟩ := q15
    replace e15_1 := e15_1.symm; subst e15_1
    replace e15_2 := e15_2.symm; subst e15_2
    refine Z_ishr (n := 19) dX0_gateValue_18 rfl ?_
    refine Z_iconst (n := 20) dX0_gateValue_19 rfl (by decide) ?_
    refine Z_iand (n := 21) dX0_gateValue_20 rfl ?_
    refine Z_iret dX0_gateValue_21 rfl ?_
    have hz := zand_1 (zshr a x15)
    refine ⟨rfl, rfl, ?_⟩; omega
set_option maxRecDepth 20000 in
theorem zX0_outputValue {G : tl_G} {M : zM} {J : zJ} {b : Nat} {o a : Int} (hb : NetAt b) (hN : netOK M b) (h0 : 0 ≤ o) (h1 : o < M b 5) : ZN G yX0_outputValue mX0_outputValue 2 (kOf b) [vR b, vI o, vI a] F1 M J (qI (fun x M' J' => J' = J ∧ 0 ≤ x ∧ x ≤ 1)) := by
  refine ZN_of (L := [_, _, _, _, _]) (by decide) rfl rfl (Nat.le_of_ble_eq_true rfl) rfl (fun hav => ?_)
  refine Z_rg b 5 (nTo hb) (fun g5 g5b => ?_)
  refine Z_rg b 4 (nTg hb) (fun g4 g4b => ?_)
  have ho := hN.2 o h0 h1
  refine Z_aload_n (n := 1) dX0_outputValue_0 rfl rfl ?_
  refine Z_getA (n := 4) dX0_outputValue_1 rfl ffX0_18 (by first | exact nS0 hb | exact nS1 hb | exact nS2 hb | exact nS3 hb | exact nS4 hb | exact nP0 hb | exact nP1 hb | exact nP2 hb | exact nP3 hb | rfl) (by first | exact nS0 hb | exact nS1 hb | exact nS2 hb | exact nS3 hb | exact nS4 hb | exact nP0 hb | exact nP1 hb | exact nP2 hb | exact nP3 hb | rfl) ?_
  refine Z_iload_n (n := 5) dX0_outputValue_4 rfl rfl ?_
  refine Z_iald (n := 6) dX0_outputValue_5 rfl (by first | exact nS0 hb | exact nS1 hb | exact nS2 hb | exact nS3 hb | exact nS4 hb | exact nP0 hb | exact nP1 hb | exact nP2 hb | exact nP3 hb | rfl) (by first | exact nTg hb | exact nTo hb | exact nT1 hb | exact nT2 hb | exact nT3 hb | exact nT4 hb | rfl) (by first | decide | assumption) (by omega) (by omega) (fun r5 s5 => ?_)
  refine Z_istore_n (L' := [_, _, _, _, _]) (n := 7) dX0_outputValue_6 rfl (by decide) rfl rfl ?_
  refine Z_iconst (n := 8) dX0_outputValue_7 rfl (by decide) ?_
  refine Z_istore (L' := [_, _, _, _, _]) (n := 10) dX0_outputValue_8 rfl (by decide) rfl rfl ?_
  have lp10 : ∀ (N10 : Nat) (g : Int) (M10 : zM) (J10 : zJ), ((M (b + 3) o + 1 - g).toNat) < N10 → (J10 = J) → (0 ≤ g) → (g ≤ M (b + 3) o + 1) → TZ G mX0_outputValue (tl_rm 2 0 0) 0 0 (kOf b) M J 10 [some (vR b), some (vI o), some (vI a), some (vI (M (b + 3) o)), some (vI g)] [] F1 M10 J10 (ZM G (zPost G (kOf b) F1 M J (qI (fun x M' J' => J' = J ∧ 0 ≤ x ∧ x ≤ 1))) 0 0) := by
    intro N10
    induction N10 with
    | zero => intro g M10 J10 hN; omega
    | succ N10 ih10 =>
      intro g M10 J10 hN10 i10_0 i10_1 i10_2
      refine Z_iload (n := 12) dX0_outputValue_10 rfl rfl ?_
      refine Z_iload_n (n := 13) dX0_outputValue_12 rfl rfl ?_
      refine Z_icmp_gt (n := 16) (t := 36) dX0_outputValue_13 rfl (by decide) (fun c13 => ?_) (fun c13 => ?_)
      · refine Z_aload_n (n := 37) dX0_outputValue_36 rfl rfl ?_
        refine Z_getA (n := 40) dX0_outputValue_37 rfl ffX0_21 (by first | exact nS0 hb | exact nS1 hb | exact nS2 hb | exact nS3 hb | exact nS4 hb | exact nP0 hb | exact nP1 hb | exact nP2 hb | exact nP3 hb | rfl) (by first | exact nS0 hb | exact nS1 hb | exact nS2 hb | exact nS3 hb | exact nS4 hb | exact nP0 hb | exact nP1 hb | exact nP2 hb | exact nP3 hb | rfl) ?_
        refine Z_iload_n (n := 41) dX0_outputValue_40 rfl rfl ?_
        refine Z_iald (n := 42) dX0_outputValue_41 rfl (by first | exact nS0 hb | exact nS1 hb | exact nS2 hb | exact nS3 hb | exact nS4 hb | exact nP0 hb | exact nP1 hb | exact nP2 hb | exact nP3 hb | rfl) (by first | exact nTg hb | exact nTo hb | exact nT1 hb | exact nT2 hb | exact nT3 hb | exact nT4 hb | rfl) (by first | decide | assumption) (by omega) (by omega) (fun r41 s41 => ?_)
        refine Z_iret dX0_outputValue_42 rfl ?_
        exact ⟨i10_0, by omega, by omega⟩
      · refine Z_fr (fun fr10 => ?_)
        have hN10 : netOK M10 b := netOK_fr hN (fr10 b (by unfold kOf; omega)).1 (fr10 (b + 1) (by unfold kOf; omega)).1 (fr10 (b + 2) (by unfold kOf; omega)).1 (fr10 (b + 3) (by unfold kOf; omega)).1
        have hb4 : M10 b 4 = M b 4 := congrFun (fr10 b (by unfold kOf; omega)).1 4
        refine Z_aload_n (n := 17) dX0_outputValue_16 rfl rfl ?_
        refine Z_getA (n := 20) dX0_outputValue_17 rfl ffX0_21 (by first | exact nS0 hb | exact nS1 hb | exact nS2 hb | exact nS3 hb | exact nS4 hb | exact nP0 hb | exact nP1 hb | exact nP2 hb | exact nP3 hb | rfl) (by first | exact nS0 hb | exact nS1 hb | exact nS2 hb | exact nS3 hb | exact nS4 hb | exact nP0 hb | exact nP1 hb | exact nP2 hb | exact nP3 hb | rfl) ?_
        refine Z_iload (n := 22) dX0_outputValue_20 rfl rfl ?_
        refine Z_aload_n (n := 23) dX0_outputValue_22 rfl rfl ?_
        refine Z_iload (n := 25) dX0_outputValue_23 rfl rfl ?_
        refine Z_iload_n (n := 26) dX0_outputValue_25 rfl rfl ?_
        refine Z_callVi (n := 29) [_, _] _ dX0_outputValue_26 rfl cwX0_38 rfl rfl (by first | exact nS0 hb | exact nS1 hb | exact nS2 hb | exact nS3 hb | exact nS4 hb | exact nP0 hb | exact nP1 hb | exact nP2 hb | exact nP3 hb | rfl) (Nat.le_of_ble_eq_true rfl) (by refine ⟨?_, ?_, ?_, ?_⟩ <;> exact Nat.le_of_ble_eq_true rfl) (fun _ _ => trivial) (zX0_gateValue  (by first | assumption | omega | decide) (by first | assumption | omega | decide) (by first | assumption | omega | decide) (by first | assumption | omega | decide)) ?_
        intro x26 M26 J26 z26 f26 q26
        obtain ⟨e26_1, e26_2, h26⟩ := q26
        replace e26_1 := e26_1.symm; subst e26_1
        replace e26_2 := e26_2.symm; subst e26_2
        refine Z_iast (n := 30) dX0_outputValue_29 rfl (by first | exact nS0 hb | exact nS1 hb | exact nS2 hb | exact nS3 hb | exact nS4 hb | exact nP0 hb | exact nP1 hb | exact nP2 hb | exact nP3 hb | rfl) (by first | exact nTg hb | exact nTo hb | exact nT1 hb | exact nT2 hb | exact nT3 hb | exact nT4 hb | rfl) (by first | decide | assumption) (by omega) (by omega) (by first | assumption | omega | decide) (by first | assumption | omega | decide) (by unfold kOf; omega) ?_
        refine Z_any (fun M29 => ?_)
        refine Z_iinc (L' := [_, _, _, _, _]) (n := 33) dX0_outputValue_30 rfl rfl (by decide) rfl rfl (by omega) rfl ?_
        refine Z_goto (t := 10) dX0_outputValue_33 (by decide) ?_
        refine Z_loc (L' := [some _, some _, some _, some _, some _]) (lsub_same (lsub_same (lsub_same (lsub_same (lsub_same lsub_nil))))) ?_
        exact ih10 _ _ _ (by omega) (by first | rfl | assumption) (by first | assumption | omega | decide) (by first | assumption | omega | decide)
  refine Z_loc (L' := [some _, some _, some _, some _, some _]) (lsub_same (lsub_same (lsub_same (lsub_same (lsub_same lsub_nil))))) ?_
  exact lp10 _ _ _ _ (Nat.lt_succ_self _) (by first | rfl | assumption) (by first | assumption | omega | decide) (by first | assumption | omega | decide)
