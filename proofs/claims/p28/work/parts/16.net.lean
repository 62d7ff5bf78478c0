/-! ===== Net ===== -/
abbrev kOf (b a : Nat) : Prop := ¬ a = b + 4
abbrev kLN (a : Nat) : Prop := ¬ a = 14
abbrev kGo (b a : Nat) : Prop := ¬ a = b + 4 ∧ (a < 2 ∨ 4 < a)
/-- a net's gates look at gates before them; its outputs are gates -/
def netOK (M : zM) (b : Nat) : Prop := (∀ g : Int, 0 ≤ g → g < M b 4 → (∀ i : Int, 0 ≤ i → i < opF (M (b + 1) g) → 0 ≤ M (b + 2) (3 * g + i) ∧ M (b + 2) (3 * g + i) < g) ∧ (M (b + 1) g = 0 → 0 ≤ M (b + 2) (3 * g) ∧ M (b + 2) (3 * g) < 8)) ∧ ∀ o : Int, 0 ≤ o → o < M b 5 → 0 ≤ M (b + 3) o ∧ M (b + 3) o < M b 4
theorem netOK_fr {M M' : zM} {b : Nat} (h : netOK M b) (h0 : M' b = M b) (h1 : M' (b + 1) = M (b + 1)) (h2 : M' (b + 2) = M (b + 2)) (h3 : M' (b + 3) = M (b + 3)) : netOK M' b := by
  unfold netOK
  rw [h0, h1, h2, h3]
  exact h
theorem oMet_fr {M M' : zM} (h : oMet M) (h2 : M' 2 = M 2) (h4 : M' 4 = M 4) : oMet M' := by
  unfold oMet
  rw [h2, h4]
  exact h
set_option maxRecDepth 20000 in
theorem zX0_gateValue {G : tl_G} {M : zM} {J : zJ} {b : Nat} {g a : Int} (hb : NetAt b) (hN : netOK M b) (h0 : 0 ≤ g) (h1 : g < M b 4) : ZN G yX0_gateValue mX0_gateValue 1 kAll [vR b, vI g, vI a] F1 M J (qI (fun x M' J' => M' = M ∧ J' = J ∧ 0 ≤ x ∧ x ≤ 1)) := by
  refine ZN_of (L := [_, _, _, _, _, _]) (by decide) rfl rfl (Nat.le_of_ble_eq_true rfl) rfl (fun hav => ?_)
  refine Z_rg b 4 (nTg hb) (fun g4 g4b => ?_)
  refine Z_aload_n (n := 1) dX0_gateValue_0 rfl rfl ?_
  refine Z_getA (n := 4) dX0_gateValue_1 rfl ffX0_9 (by first | exact nS0 hb | exact nS1 hb | exact nS2 hb | exact nS3 hb | exact nS4 hb | exact nP0 hb | exact nP1 hb | exact nP2 hb | exact nP3 hb | rfl) (by first | exact nS0 hb | exact nS1 hb | exact nS2 hb | exact nS3 hb | exact nS4 hb | exact nP0 hb | exact nP1 hb | exact nP2 hb | exact nP3 hb | rfl) ?_
  refine Z_iload_n (n := 5) dX0_gateValue_4 rfl rfl ?_
  refine Z_iald (n := 6) dX0_gateValue_5 rfl (by first | exact nS0 hb | exact nS1 hb | exact nS2 hb | exact nS3 hb | exact nS4 hb | exact nP0 hb | exact nP1 hb | exact nP2 hb | exact nP3 hb | rfl) (by first | exact nTg hb | exact nTo hb | exact nT1 hb | exact nT2 hb | exact nT3 hb | exact nT4 hb | rfl) (by first | decide | assumption) (by omega) (by omega) (fun r5 s5 => ?_)
  refine Z_istore_n (L' := [_, _, _, _, _, _]) (n := 7) dX0_gateValue_6 rfl (by decide) rfl rfl ?_
  refine Z_iload_n (n := 8) dX0_gateValue_7 rfl rfl ?_
  refine Z_if_ne (n := 11) (t := 22) dX0_gateValue_8 rfl (by decide) (fun c8 => ?_) (fun c8 => ?_)
  · refine Z_iconst (n := 23) dX0_gateValue_22 rfl (by decide) ?_
    refine Z_istore (L' := [_, _, _, _, _, _]) (n := 25) dX0_gateValue_23 rfl (by decide) rfl rfl ?_
    refine Z_iconst (n := 26) dX0_gateValue_25 rfl (by decide) ?_
    refine Z_istore (L' := [_, _, _, _, _, _]) (n := 28) dX0_gateValue_26 rfl (by decide) rfl rfl ?_
    have lp28 : ∀ (N28 : Nat) (c i : Int) , ((3 - i).toNat) < N28 → (0 ≤ i) → (i ≤ 3) → TZ G mX0_gateValue (tl_rm 1 0 0) 0 0 kAll M J 28 [some (vR b), some (vI g), some (vI a), some (vI (M (b + 1) g)), some (vI c), some (vI i)] [] F1 M J (ZM G (zPost G kAll F1 M J (qI (fun x M' J' => M' = M ∧ J' = J ∧ 0 ≤ x ∧ x ≤ 1))) 0 0) := by
      intro N28
      induction N28 with
      | zero => intro c i  hN; omega
      | succ N28 ih28 =>
        intro c i  hN28 i28_0 i28_1
        refine Z_iload (n := 30) dX0_gateValue_28 rfl rfl ?_
        refine Z_getsN (i := 1) (n := 33) dX0_gateValue_30 rfl (by decide) (by decide) rfl rfl ?_
        refine Z_iload_n (n := 34) dX0_gateValue_33 rfl rfl ?_
        refine Z_ialdS1 (n := 35) dX0_gateValue_34 rfl (by omega) (by omega) (fun r34 s34 => ?_)
        refine Z_icmp_ge (n := 38) (t := 64) dX0_gateValue_35 rfl (by decide) (fun c35 => ?_) (fun c35 => ?_)
        · refine Z_getsN (i := 2) (n := 67) dX0_gateValue_64 rfl (by decide) (by decide) rfl rfl ?_
          refine Z_iload_n (n := 68) dX0_gateValue_67 rfl rfl ?_
          refine Z_ialdS2 (n := 69) dX0_gateValue_68 rfl (by omega) (by omega) (fun r68 s68 => ?_)
          refine Z_iload (n := 71) dX0_gateValue_69 rfl rfl ?_
          refine Z_ishr (n := 72) dX0_gateValue_71 rfl ?_
          refine Z_iconst (n := 73) dX0_gateValue_72 rfl (by decide) ?_
          refine Z_iand (n := 74) dX0_gateValue_73 rfl ?_
          refine Z_iret dX0_gateValue_74 rfl ?_
          have hz := zand_1 (zshr (tabF (M (b + 1) g)) c)
          refine ⟨rfl, rfl, ?_⟩; omega
        · refine Z_iload (n := 40) dX0_gateValue_38 rfl rfl ?_
          refine Z_aload_n (n := 41) dX0_gateValue_40 rfl rfl ?_
          refine Z_getA (n := 44) dX0_gateValue_41 rfl ffX0_21 (by first | exact nS0 hb | exact nS1 hb | exact nS2 hb | exact nS3 hb | exact nS4 hb | exact nP0 hb | exact nP1 hb | exact nP2 hb | exact nP3 hb | rfl) (by first | exact nS0 hb | exact nS1 hb | exact nS2 hb | exact nS3 hb | exact nS4 hb | exact nP0 hb | exact nP1 hb | exact nP2 hb | exact nP3 hb | rfl) ?_
          refine Z_aload_n (n := 45) dX0_gateValue_44 rfl rfl ?_
          refine Z_iload_n (n := 46) dX0_gateValue_45 rfl rfl ?_
          refine Z_iload (n := 48) dX0_gateValue_46 rfl rfl ?_
          refine Z_callVi (n := 51) [_, _] _ dX0_gateValue_48 rfl cwX0_42 rfl rfl (by first | exact nS0 hb | exact nS1 hb | exact nS2 hb | exact nS3 hb | exact nS4 hb | exact nP0 hb | exact nP1 hb | exact nP2 hb | exact nP3 hb | rfl) (Nat.le_of_ble_eq_true rfl) (by refine ⟨?_, ?_, ?_, ?_⟩ <;> exact Nat.le_of_ble_eq_true rfl) (fun _ h => h) (zX0_operand  (by first | assumption | omega | decide) (by first | assumption | omega | decide) (by first | assumption | omega | decide) (by first | assumption | omega | decide) (by first | assumption | omega | decide)) ?_
          intro x48 M48 J48 z48 f48 q48
          obtain ⟨e48_1, e48_2, h48⟩ := q48
          replace e48_1 := e48_1.symm; subst e48_1
          replace e48_2 := e48_2.symm; subst e48_2
          have hop := (hN.1 g h0 h1).1 i (by omega) (by omega)
          rw [← h48] at hop
          refine Z_iald (n := 52) dX0_gateValue_51 rfl (by first | exact nS0 hb | exact nS1 hb | exact nS2 hb | exact nS3 hb | exact nS4 hb | exact nP0 hb | exact nP1 hb | exact nP2 hb | exact nP3 hb | rfl) (by first | exact nTg hb | exact nTo hb | exact nT1 hb | exact nT2 hb | exact nT3 hb | exact nT4 hb | rfl) (by first | decide | assumption) (by omega) (by omega) (fun r51 s51 => ?_)
          refine Z_iload (n := 54) dX0_gateValue_52 rfl rfl ?_
          refine Z_ishl (n := 55) dX0_gateValue_54 rfl ?_
          refine Z_ior (n := 56) dX0_gateValue_55 rfl ?_
          refine Z_istore (L' := [_, _, _, _, _, _]) (n := 58) dX0_gateValue_56 rfl (by decide) rfl rfl ?_
          refine Z_iinc (L' := [_, _, _, _, _, _]) (n := 61) dX0_gateValue_58 rfl rfl (by decide) rfl rfl (by omega) rfl ?_
          refine Z_goto (t := 28) dX0_gateValue_61 (by decide) ?_
          refine Z_loc (L' := [some _, some _, some _, some _, some _, some _]) (lsub_same (lsub_same (lsub_same (lsub_same (lsub_same (lsub_same lsub_nil)))))) ?_
          exact ih28 _ _  (by omega) (by first | assumption | omega | decide) (by first | assumption | omega | decide)
    refine Z_loc (L' := [some _, some _, some _, some _, some _, some _]) (lsub_same (lsub_same (lsub_same (lsub_same (lsub_same (lsub_same lsub_nil)))))) ?_
    exact lp28 _ _ _  (Nat.lt_succ_self _) (by first | assumption | omega | decide) (by first | assumption | omega | decide)
  · refine Z_iload_n (n := 12) dX0_gateValue_11 rfl rfl ?_
    refine Z_aload_n (n := 13) dX0_gateValue_12 rfl rfl ?_
    refine Z_iload_n (n := 14) dX0_gateValue_13 rfl rfl ?_
    refine Z_iconst (n := 15) dX0_gateValue_14 rfl (by decide) ?_
    have ho0 := (hN.1 g h0 h1).2 (by omega)
    refine Z_callVi (n := 18) [_, _] _ dX0_gateValue_15 rfl cwX0_42 rfl rfl (by first | exact nS0 hb | exact nS1 hb | exact nS2 hb | exact nS3 hb | exact nS4 hb | exact nP0 hb | exact nP1 hb | exact nP2 hb | exact nP3 hb | rfl) (Nat.le_of_ble_eq_true rfl) (by refine ⟨?_, ?_, ?_, ?_⟩ <;> exact Nat.le_of_ble_eq_true rfl) (fun _ h => h) (zX0_operand  (by first | assumption | omega | decide) (by first | assumption | omega | decide) (by first | assumption | omega | decide) (by first | assumption | omega | decide) (by first | assumption | omega | decide)) ?_
    intro x15 M15 J15 z15 f15 q15
    obtain ⟨e15_1, e15_2, h15⟩ := q15
    replace e15_1 := e15_1.symm; subst e15_1
    replace e15_2 := e15_2.symm; subst e15_2
    refine Z_ishr (n := 19) dX0_gateValue_18 rfl ?_
    refine Z_iconst (n := 20) dX0_gateValue_19 rfl (by decide) ?_
    refine Z_iand (n := 21) dX0_gateValue_20 rfl ?_
    refine Z_iret dX0_gateValue_21 rfl ?_
    have hz := zand_1 (zshr a x15)
    refine ⟨rfl, rfl, ?_⟩; omega
set_option maxRecDepth 20000 in
theorem zX0_outputValue {G : tl_G} {M : zM} {J : zJ} {b : Nat} {o a : Int} (hb : NetAt b) (hN : netOK M b) (h0 : 0 ≤ o) (h1 : o < M b 5) : ZN G yX0_outputValue mX0_outputValue 2 (kOf b) [vR b, vI o, vI a] F1 M J (qI (fun x M' J' => J' = J ∧ 0 ≤ x ∧ x ≤ 1)) := by
  refine ZN_of (L := [_, _, _, _, _]) (by decide) rfl rfl (Nat.le_of_ble_eq_true rfl) rfl (fun hav => ?_)
  refine Z_rg b 5 (nTo hb) (fun g5 g5b => ?_)
  refine Z_rg b 4 (nTg hb) (fun g4 g4b => ?_)
  have ho := hN.2 o h0 h1
  refine Z_aload_n (n := 1) dX0_outputValue_0 rfl rfl ?_
  refine Z_getA (n := 4) dX0_outputValue_1 rfl ffX0_18 (by first | exact nS0 hb | exact nS1 hb | exact nS2 hb | exact nS3 hb | exact nS4 hb | exact nP0 hb | exact nP1 hb | exact nP2 hb | exact nP3 hb | rfl) (by first | exact nS0 hb | exact nS1 hb | exact nS2 hb | exact nS3 hb | exact nS4 hb | exact nP0 hb | exact nP1 hb | exact nP2 hb | exact nP3 hb | rfl) ?_
  refine Z_iload_n (n := 5) dX0_outputValue_4 rfl rfl ?_
  refine Z_iald (n := 6) dX0_outputValue_5 rfl (by first | exact nS0 hb | exact nS1 hb | exact nS2 hb | exact nS3 hb | exact nS4 hb | exact nP0 hb | exact nP1 hb | exact nP2 hb | exact nP3 hb | rfl) (by first | exact nTg hb | exact nTo hb | exact nT1 hb | exact nT2 hb | exact nT3 hb | exact nT4 hb | rfl) (by first | decide | assumption) (by omega) (by omega) (fun r5 s5 => ?_)
  refine Z_istore_n (L' := [_, _, _, _, _]) (n := 7) dX0_outputValue_6 rfl (by decide) rfl rfl ?_
  refine Z_iconst (n := 8) dX0_outputValue_7 rfl (by decide) ?_
  refine Z_istore (L' := [_, _, _, _, _]) (n := 10) dX0_outputValue_8 rfl (by decide) rfl rfl ?_
  have lp10 : ∀ (N10 : Nat) (g : Int) (M10 : zM) (J10 : zJ), ((M (b + 3) o + 1 - g).toNat) < N10 → (J10 = J) → (0 ≤ g) → (g ≤ M (b + 3) o + 1) → TZ G mX0_outputValue (tl_rm 2 0 0) 0 0 (kOf b) M J 10 [some (vR b), some (vI o), some (vI a), some (vI (M (b + 3) o)), some (vI g)] [] F1 M10 J10 (ZM G (zPost G (kOf b) F1 M J (qI (fun x M' J' => J' = J ∧ 0 ≤ x ∧ x ≤ 1))) 0 0) := by
    intro N10
    induction N10 with
    | zero => intro g M10 J10 hN; omega
    | succ N10 ih10 =>
      intro g M10 J10 hN10 i10_0 i10_1 i10_2
      refine Z_iload (n := 12) dX0_outputValue_10 rfl rfl ?_
      refine Z_iload_n (n := 13) dX0_outputValue_12 rfl rfl ?_
      refine Z_icmp_gt (n := 16) (t := 36) dX0_outputValue_13 rfl (by decide) (fun c13 => ?_) (fun c13 => ?_)
      · refine Z_aload_n (n := 37) dX0_outputValue_36 rfl rfl ?_
        refine Z_getA (n := 40) dX0_outputValue_37 rfl ffX0_21 (by first | exact nS0 hb | exact nS1 hb | exact nS2 hb | exact nS3 hb | exact nS4 hb | exact nP0 hb | exact nP1 hb | exact nP2 hb | exact nP3 hb | rfl) (by first | exact nS0 hb | exact nS1 hb | exact nS2 hb | exact nS3 hb | exact nS4 hb | exact nP0 hb | exact nP1 hb | exact nP2 hb | exact nP3 hb | rfl) ?_
        refine Z_iload_n (n := 41) dX0_outputValue_40 rfl rfl ?_
        refine Z_iald (n := 42) dX0_outputValue_41 rfl (by first | exact nS0 hb | exact nS1 hb | exact nS2 hb | exact nS3 hb | exact nS4 hb | exact nP0 hb | exact nP1 hb | exact nP2 hb | exact nP3 hb | rfl) (by first | exact nTg hb | exact nTo hb | exact nT1 hb | exact nT2 hb | exact nT3 hb | exact nT4 hb | rfl) (by first | decide | assumption) (by omega) (by omega) (fun r41 s41 => ?_)
        refine Z_iret dX0_outputValue_42 rfl ?_
        exact ⟨i10_0, by omega, by omega⟩
      · refine Z_fr (fun fr10 => ?_)
        have hN10 : netOK M10 b := netOK_fr hN (fr10 b (by unfold kOf; omega)).1 (fr10 (b + 1) (by unfold kOf; omega)).1 (fr10 (b + 2) (by unfold kOf; omega)).1 (fr10 (b + 3) (by unfold kOf; omega)).1
        have hb4 : M10 b 4 = M b 4 := congrFun (fr10 b (by unfold kOf; omega)).1 4
        refine Z_aload_n (n := 17) dX0_outputValue_16 rfl rfl ?_
        refine Z_getA (n := 20) dX0_outputValue_17 rfl ffX0_21 (by first | exact nS0 hb | exact nS1 hb | exact nS2 hb | exact nS3 hb | exact nS4 hb | exact nP0 hb | exact nP1 hb | exact nP2 hb | exact nP3 hb | rfl) (by first | exact nS0 hb | exact nS1 hb | exact nS2 hb | exact nS3 hb | exact nS4 hb | exact nP0 hb | exact nP1 hb | exact nP2 hb | exact nP3 hb | rfl) ?_
        refine Z_iload (n := 22) dX0_outputValue_20 rfl rfl ?_
        refine Z_aload_n (n := 23) dX0_outputValue_22 rfl rfl ?_
        refine Z_iload (n := 25) dX0_outputValue_23 rfl rfl ?_
        refine Z_iload_n (n := 26) dX0_outputValue_25 rfl rfl ?_
        refine Z_callVi (n := 29) [_, _] _ dX0_outputValue_26 rfl cwX0_38 rfl rfl (by first | exact nS0 hb | exact nS1 hb | exact nS2 hb | exact nS3 hb | exact nS4 hb | exact nP0 hb | exact nP1 hb | exact nP2 hb | exact nP3 hb | rfl) (Nat.le_of_ble_eq_true rfl) (by refine ⟨?_, ?_, ?_, ?_⟩ <;> exact Nat.le_of_ble_eq_true rfl) (fun _ _ => trivial) (zX0_gateValue  (by first | assumption | omega | decide) (by first | assumption | omega | decide) (by first | assumption | omega | decide) (by first | assumption | omega | decide)) ?_
        intro x26 M26 J26 z26 f26 q26
        obtain ⟨e26_1, e26_2, h26⟩ := q26
        replace e26_1 := e26_1.symm; subst e26_1
        replace e26_2 := e26_2.symm; subst e26_2
        refine Z_iast (n := 30) dX0_outputValue_29 rfl (by first | exact nS0 hb | exact nS1 hb | exact nS2 hb | exact nS3 hb | exact nS4 hb | exact nP0 hb | exact nP1 hb | exact nP2 hb | exact nP3 hb | rfl) (by first | exact nTg hb | exact nTo hb | exact nT1 hb | exact nT2 hb | exact nT3 hb | exact nT4 hb | rfl) (by first | decide | assumption) (by omega) (by omega) (by first | assumption | omega | decide) (by first | assumption | omega | decide) (by unfold kOf; omega) ?_
        refine Z_any (fun M29 => ?_)
        refine Z_iinc (L' := [_, _, _, _, _]) (n := 33) dX0_outputValue_30 rfl rfl (by decide) rfl rfl (by omega) rfl ?_
        refine Z_goto (t := 10) dX0_outputValue_33 (by decide) ?_
        refine Z_loc (L' := [some _, some _, some _, some _, some _]) (lsub_same (lsub_same (lsub_same (lsub_same (lsub_same lsub_nil))))) ?_
        exact ih10 _ _ _ (by omega) (by first | rfl | assumption) (by first | assumption | omega | decide) (by first | assumption | omega | decide)
  refine Z_loc (L' := [some _, some _, some _, some _, some _]) (lsub_same (lsub_same (lsub_same (lsub_same (lsub_same lsub_nil))))) ?_
  exact lp10 _ _ _ _ (Nat.lt_succ_self _) (by first | rfl | assumption) (by first | assumption | omega | decide) (by first | assumption | omega | decide)
set_option maxRecDepth 20000 in
theorem zX0_noteNeedsOf {G : tl_G} {M : zM} {J : zJ} {b : Nat} {g : Int} (hb : NetAt b) (hN : netOK M b) (h0 : 0 ≤ g) (h1 : g < M b 4) : ZN G yX0_noteNeedsOf mX0_noteNeedsOf 1 kLN [vR b, vI g, vR 14] F1 M J (qV (fun M' J' => J' = J)) := by
  refine ZN_of (L := [_, _, _, _, _]) (by decide) rfl rfl (Nat.le_of_ble_eq_true rfl) rfl (fun hav => ?_)
  refine Z_rg b 4 (nTg hb) (fun g4 g4b => ?_)
  refine Z_iconst (n := 1) dX0_noteNeedsOf_0 rfl (by decide) ?_
  refine Z_istore_n (L' := [_, _, _, _, _]) (n := 2) dX0_noteNeedsOf_1 rfl (by decide) rfl rfl ?_
  have lp2 : ∀ (N2 : Nat) (i : Int) (M2 : zM) (J2 : zJ), ((3 - i).toNat) < N2 → (J2 = J) → (0 ≤ i) → (i ≤ 3) → TZ G mX0_noteNeedsOf (tl_rm 1 0 0) 0 0 kLN M J 2 [some (vR b), some (vI g), some (vR 14), some (vI i), none] [] F1 M2 J2 (ZM G (zPost G kLN F1 M J (qV (fun M' J' => J' = J))) 0 0) := by
    intro N2
    induction N2 with
    | zero => intro i M2 J2 hN; omega
    | succ N2 ih2 =>
      intro i M2 J2 hN2 i2_0 i2_1 i2_2
      refine Z_iload_n (n := 3) dX0_noteNeedsOf_2 rfl rfl ?_
      refine Z_fr (fun fr2 => ?_)
      have hk : M2 (b + 1) g = M (b + 1) g := congrFun (fr2 (b + 1) (by unfold kLN; omega)).1 g
      refine Z_getsN (i := 1) (n := 6) dX0_noteNeedsOf_3 rfl (by decide) (by decide) rfl rfl ?_
      refine Z_aload_n (n := 7) dX0_noteNeedsOf_6 rfl rfl ?_
      refine Z_getA (n := 10) dX0_noteNeedsOf_7 rfl ffX0_9 (by first | exact nS0 hb | exact nS1 hb | exact nS2 hb | exact nS3 hb | exact nS4 hb | exact nP0 hb | exact nP1 hb | exact nP2 hb | exact nP3 hb | rfl) (by first | exact nS0 hb | exact nS1 hb | exact nS2 hb | exact nS3 hb | exact nS4 hb | exact nP0 hb | exact nP1 hb | exact nP2 hb | exact nP3 hb | rfl) ?_
      refine Z_iload_n (n := 11) dX0_noteNeedsOf_10 rfl rfl ?_
      refine Z_iald (n := 12) dX0_noteNeedsOf_11 rfl (by first | exact nS0 hb | exact nS1 hb | exact nS2 hb | exact nS3 hb | exact nS4 hb | exact nP0 hb | exact nP1 hb | exact nP2 hb | exact nP3 hb | rfl) (by first | exact nTg hb | exact nTo hb | exact nT1 hb | exact nT2 hb | exact nT3 hb | exact nT4 hb | rfl) (by first | decide | assumption) (by omega) (by omega) (fun r11 s11 => ?_)
      refine Z_ialdS1 (n := 13) dX0_noteNeedsOf_12 rfl (by omega) (by omega) (fun r12 s12 => ?_)
      refine Z_icmp_ge (n := 16) (t := 43) dX0_noteNeedsOf_13 rfl (by decide) (fun c13 => ?_) (fun c13 => ?_)
      · refine Z_vret dX0_noteNeedsOf_43 rfl ?_
        exact i2_0
      · refine Z_aload_n (n := 17) dX0_noteNeedsOf_16 rfl rfl ?_
        refine Z_iload_n (n := 18) dX0_noteNeedsOf_17 rfl rfl ?_
        refine Z_iload_n (n := 19) dX0_noteNeedsOf_18 rfl rfl ?_
        refine Z_callVi (n := 22) [_, _] _ dX0_noteNeedsOf_19 rfl cwX0_42 rfl rfl (by first | exact nS0 hb | exact nS1 hb | exact nS2 hb | exact nS3 hb | exact nS4 hb | exact nP0 hb | exact nP1 hb | exact nP2 hb | exact nP3 hb | rfl) (Nat.le_of_ble_eq_true rfl) (by refine ⟨?_, ?_, ?_, ?_⟩ <;> exact Nat.le_of_ble_eq_true rfl) (fun _ _ => trivial) (zX0_operand  (by first | assumption | omega | decide) (by first | assumption | omega | decide) (by first | assumption | omega | decide) (by first | assumption | omega | decide) (by first | assumption | omega | decide)) ?_
        intro x19 M19 J19 z19 f19 q19
        obtain ⟨e19_1, e19_2, h19⟩ := q19
        replace e19_1 := e19_1.symm; subst e19_1
        replace e19_2 := e19_2.symm; subst e19_2
        rw [congrFun (fr2 (b + 2) (by unfold kLN; omega)).1 _] at h19
        have hop := (hN.1 g h0 h1).1 i (by omega) (by rw [← hk]; omega)
        rw [← h19] at hop
        refine Z_istore (L' := [_, _, _, _, _]) (n := 24) dX0_noteNeedsOf_22 rfl (by decide) rfl rfl ?_
        refine Z_aload_n (n := 25) dX0_noteNeedsOf_24 rfl rfl ?_
        refine Z_iload (n := 27) dX0_noteNeedsOf_25 rfl rfl ?_
        refine Z_iald (n := 28) dX0_noteNeedsOf_27 rfl (by first | exact nS0 hb | exact nS1 hb | exact nS2 hb | exact nS3 hb | exact nS4 hb | exact nP0 hb | exact nP1 hb | exact nP2 hb | exact nP3 hb | rfl) (by first | exact nTg hb | exact nTo hb | exact nT1 hb | exact nT2 hb | exact nT3 hb | exact nT4 hb | rfl) (by first | decide | assumption) (by omega) (by omega) (fun r27 s27 => ?_)
        refine Z_iconst (n := 29) dX0_noteNeedsOf_28 rfl (by decide) ?_
        refine Z_icmp_ne (n := 32) (t := 37) dX0_noteNeedsOf_29 rfl (by decide) (fun c29 => ?_) (fun c29 => ?_)
        · refine Z_iinc (L' := [_, _, _, _, _]) (n := 40) dX0_noteNeedsOf_37 rfl rfl (by decide) rfl rfl (by omega) rfl ?_
          refine Z_goto (t := 2) dX0_noteNeedsOf_40 (by decide) ?_
          refine Z_loc (L' := [some _, some _, some _, some _, none]) (lsub_same (lsub_same (lsub_same (lsub_same (lsub_none lsub_nil))))) ?_
          exact ih2 _ _ _ (by omega) (by first | rfl | assumption) (by first | assumption | omega | decide) (by first | assumption | omega | decide)
        · refine Z_aload_n (n := 33) dX0_noteNeedsOf_32 rfl rfl ?_
          refine Z_iload (n := 35) dX0_noteNeedsOf_33 rfl rfl ?_
          refine Z_iload_n (n := 36) dX0_noteNeedsOf_35 rfl rfl ?_
          refine Z_iast (n := 37) dX0_noteNeedsOf_36 rfl (by first | exact nS0 hb | exact nS1 hb | exact nS2 hb | exact nS3 hb | exact nS4 hb | exact nP0 hb | exact nP1 hb | exact nP2 hb | exact nP3 hb | rfl) (by first | exact nTg hb | exact nTo hb | exact nT1 hb | exact nT2 hb | exact nT3 hb | exact nT4 hb | rfl) (by first | decide | assumption) (by omega) (by omega) (by first | assumption | omega | decide) (by first | assumption | omega | decide) (by decide) ?_
          refine Z_any (fun M36 => ?_)
          refine Z_iinc (L' := [_, _, _, _, _]) (n := 40) dX0_noteNeedsOf_37 rfl rfl (by decide) rfl rfl (by omega) rfl ?_
          refine Z_goto (t := 2) dX0_noteNeedsOf_40 (by decide) ?_
          refine Z_loc (L' := [some _, some _, some _, some _, none]) (lsub_same (lsub_same (lsub_same (lsub_same (lsub_none lsub_nil))))) ?_
          exact ih2 _ _ _ (by omega) (by first | rfl | assumption) (by first | assumption | omega | decide) (by first | assumption | omega | decide)
  refine Z_loc (L' := [some _, some _, some _, some _, none]) (lsub_same (lsub_same (lsub_same (lsub_same (lsub_none lsub_nil))))) ?_
  exact lp2 _ _ _ _ (Nat.lt_succ_self _) (by first | rfl | assumption) (by first | assumption | omega | decide) (by first | assumption | omega | decide)
set_option maxRecDepth 20000 in
theorem zX0_findNeeds {G : tl_G} {M : zM} {J : zJ} {b : Nat} {o : Int} (hb : NetAt b) (hN : netOK M b) (h0 : 0 ≤ o) (h1 : o < M b 5) : ZN G yX0_findNeeds mX0_findNeeds 2 kLN [vR b, vI o, vR 14] F1 M J (qI (fun x M' J' => J' = J ∧ x = M (b + 3) o)) := by
  refine ZN_of (L := [_, _, _, _, _]) (by decide) rfl rfl (Nat.le_of_ble_eq_true rfl) rfl (fun hav => ?_)
  refine Z_rg b 5 (nTo hb) (fun g5 g5b => ?_)
  refine Z_rg b 4 (nTg hb) (fun g4 g4b => ?_)
  have ho := hN.2 o h0 h1
  refine Z_aload_n (n := 1) dX0_findNeeds_0 rfl rfl ?_
  refine Z_iconst (n := 2) dX0_findNeeds_1 rfl (by decide) ?_
  refine Z_callSv (n := 5) [_, _] _ dX0_findNeeds_2 rfl cwX0_48 rfl rfl (Nat.le_of_ble_eq_true rfl) (by refine ⟨?_, ?_, ?_, ?_⟩ <;> exact Nat.le_of_ble_eq_true rfl) (fun _ h => h) (zJ7_fill_53178  (by rfl) (by decide) (by exact fun _ => rfl) (by decide) (by decide) (by decide)) ?_
  intro M2 J2 f2 q2
  obtain ⟨e2_1, e2_2⟩ := q2
  replace e2_1 := e2_1.symm; subst e2_1
  replace e2_2 := e2_2.symm; subst e2_2
  
  refine Z_aload_n (n := 6) dX0_findNeeds_5 rfl rfl ?_
  refine Z_getA (n := 9) dX0_findNeeds_6 rfl ffX0_18 (by first | exact nS0 hb | exact nS1 hb | exact nS2 hb | exact nS3 hb | exact nS4 hb | exact nP0 hb | exact nP1 hb | exact nP2 hb | exact nP3 hb | rfl) (by first | exact nS0 hb | exact nS1 hb | exact nS2 hb | exact nS3 hb | exact nS4 hb | exact nP0 hb | exact nP1 hb | exact nP2 hb | exact nP3 hb | rfl) ?_
  refine Z_iload_n (n := 10) dX0_findNeeds_9 rfl rfl ?_
  refine Z_iald (n := 11) dX0_findNeeds_10 rfl (by first | exact nS0 hb | exact nS1 hb | exact nS2 hb | exact nS3 hb | exact nS4 hb | exact nP0 hb | exact nP1 hb | exact nP2 hb | exact nP3 hb | rfl) (by first | exact nTg hb | exact nTo hb | exact nT1 hb | exact nT2 hb | exact nT3 hb | exact nT4 hb | rfl) (by first | decide | assumption) (by omega) (by omega) (fun r10 s10 => ?_)
  rw [show fillz M 14 (40 : Nat) (-1) (b + 3) o = M (b + 3) o from congrFun (fillz_o (by omega)) o] at r10 s10 ⊢
  refine Z_istore_n (L' := [_, _, _, _, _]) (n := 12) dX0_findNeeds_11 rfl (by decide) rfl rfl ?_
  refine Z_aload_n (n := 13) dX0_findNeeds_12 rfl rfl ?_
  refine Z_iload_n (n := 14) dX0_findNeeds_13 rfl rfl ?_
  refine Z_iload_n (n := 15) dX0_findNeeds_14 rfl rfl ?_
  refine Z_iast (n := 16) dX0_findNeeds_15 rfl (by first | exact nS0 hb | exact nS1 hb | exact nS2 hb | exact nS3 hb | exact nS4 hb | exact nP0 hb | exact nP1 hb | exact nP2 hb | exact nP3 hb | rfl) (by first | exact nTg hb | exact nTo hb | exact nT1 hb | exact nT2 hb | exact nT3 hb | exact nT4 hb | rfl) (by first | decide | assumption) (by omega) (by omega) (by first | assumption | omega | decide) (by first | assumption | omega | decide) (by decide) ?_
  refine Z_any (fun M15 => ?_)
  refine Z_iload_n (n := 17) dX0_findNeeds_16 rfl rfl ?_
  refine Z_istore (L' := [_, _, _, _, _]) (n := 19) dX0_findNeeds_17 rfl (by decide) rfl rfl ?_
  have lp19 : ∀ (N19 : Nat) (g : Int) (M19 : zM) (J19 : zJ), ((g + 1).toNat) < N19 → (J19 = J) → (-1 ≤ g) → (g ≤ M (b + 3) o) → TZ G mX0_findNeeds (tl_rm 2 0 0) 0 0 kLN M J 19 [some (vR b), some (vI o), some (vR 14), some (vI (M (b + 3) o)), some (vI g)] [] F1 M19 J19 (ZM G (zPost G kLN F1 M J (qI (fun x M' J' => J' = J ∧ x = M (b + 3) o))) 0 0) := by
    intro N19
    induction N19 with
    | zero => intro g M19 J19 hN; omega
    | succ N19 ih19 =>
      intro g M19 J19 hN19 i19_0 i19_1 i19_2
      refine Z_iload (n := 21) dX0_findNeeds_19 rfl rfl ?_
      refine Z_if_lt (n := 24) (t := 45) dX0_findNeeds_21 rfl (by decide) (fun c21 => ?_) (fun c21 => ?_)
      · refine Z_iload_n (n := 46) dX0_findNeeds_45 rfl rfl ?_
        refine Z_iret dX0_findNeeds_46 rfl ?_
        exact ⟨i19_0, rfl⟩
      · refine Z_fr (fun fr19 => ?_)
        have hN19 : netOK M19 b := netOK_fr hN (fr19 b (by unfold kLN; omega)).1 (fr19 (b + 1) (by unfold kLN; omega)).1 (fr19 (b + 2) (by unfold kLN; omega)).1 (fr19 (b + 3) (by unfold kLN; omega)).1
        have hb4 : M19 b 4 = M b 4 := congrFun (fr19 b (by unfold kLN; omega)).1 4
        refine Z_aload_n (n := 25) dX0_findNeeds_24 rfl rfl ?_
        refine Z_iload (n := 27) dX0_findNeeds_25 rfl rfl ?_
        refine Z_iald (n := 28) dX0_findNeeds_27 rfl (by first | exact nS0 hb | exact nS1 hb | exact nS2 hb | exact nS3 hb | exact nS4 hb | exact nP0 hb | exact nP1 hb | exact nP2 hb | exact nP3 hb | rfl) (by first | exact nTg hb | exact nTo hb | exact nT1 hb | exact nT2 hb | exact nT3 hb | exact nT4 hb | rfl) (by first | decide | assumption) (by omega) (by omega) (fun r27 s27 => ?_)
        refine Z_iconst (n := 29) dX0_findNeeds_28 rfl (by decide) ?_
        refine Z_icmp_eq (n := 32) (t := 39) dX0_findNeeds_29 rfl (by decide) (fun c29 => ?_) (fun c29 => ?_)
        · refine Z_iinc (L' := [_, _, _, _, _]) (n := 42) dX0_findNeeds_39 rfl rfl (by decide) rfl rfl (by omega) rfl ?_
          refine Z_goto (t := 19) dX0_findNeeds_42 (by decide) ?_
          refine Z_loc (L' := [some _, some _, some _, some _, some _]) (lsub_same (lsub_same (lsub_same (lsub_same (lsub_same lsub_nil))))) ?_
          exact ih19 _ _ _ (by omega) (by first | rfl | assumption) (by first | assumption | omega | decide) (by first | assumption | omega | decide)
        · refine Z_aload_n (n := 33) dX0_findNeeds_32 rfl rfl ?_
          refine Z_iload (n := 35) dX0_findNeeds_33 rfl rfl ?_
          refine Z_aload_n (n := 36) dX0_findNeeds_35 rfl rfl ?_
          refine Z_callVv (n := 39) [_, _] _ dX0_findNeeds_36 rfl cwX0_54 rfl rfl (by first | exact nS0 hb | exact nS1 hb | exact nS2 hb | exact nS3 hb | exact nS4 hb | exact nP0 hb | exact nP1 hb | exact nP2 hb | exact nP3 hb | rfl) (Nat.le_of_ble_eq_true rfl) (by refine ⟨?_, ?_, ?_, ?_⟩ <;> exact Nat.le_of_ble_eq_true rfl) (fun _ h => h) (zX0_noteNeedsOf  (by first | assumption | omega | decide) (by first | assumption | omega | decide) (by first | assumption | omega | decide) (by first | assumption | omega | decide)) ?_
          intro M36 J36 f36 q36
          have e36_1 := q36
          replace e36_1 := e36_1.symm; subst e36_1
          refine Z_iinc (L' := [_, _, _, _, _]) (n := 42) dX0_findNeeds_39 rfl rfl (by decide) rfl rfl (by omega) rfl ?_
          refine Z_goto (t := 19) dX0_findNeeds_42 (by decide) ?_
          refine Z_loc (L' := [some _, some _, some _, some _, some _]) (lsub_same (lsub_same (lsub_same (lsub_same (lsub_same lsub_nil))))) ?_
          exact ih19 _ _ _ (by omega) (by first | rfl | assumption) (by first | assumption | omega | decide) (by first | assumption | omega | decide)
  refine Z_loc (L' := [some _, some _, some _, some _, some _]) (lsub_same (lsub_same (lsub_same (lsub_same (lsub_same lsub_nil))))) ?_
  exact lp19 _ _ _ _ (Nat.lt_succ_self _) (by first | rfl | assumption) (by first | assumption | omega | decide) (by first | assumption | omega | decide)
set_option maxRecDepth 20000 in
theorem zX0_goInto {G : tl_G} {M : zM} {J : zJ} {b : Nat} (k : Nat) {g e : Int} (hb : NetAt b) (hN : netOK M b) (h0 : 0 ≤ g) (h1 : g < M b 4) (h6 : 0 ≤ e) (h7 : e + k = 40) : ZN G yX0_goInto mX0_goInto (k + 2) (kGo b) [vR b, vI g, vR 2, vI e] F1 M J (qV (fun M' J' => J' = J ∧ (oMet M → oMet M'))) := by
  induction k generalizing M J g e with
  | zero =>
    refine ZN_of (L := [_, _, _, _, _]) (by decide) rfl rfl (Nat.le_of_ble_eq_true rfl) rfl (fun hav => ?_)
    refine Z_rg b 4 (nTg hb) (fun g4 g4b => ?_)
    refine Z_iload_n (n := 1) dX0_goInto_0 rfl rfl ?_
    refine Z_bipush (n := 3) dX0_goInto_1 rfl (by decide) (by decide) ?_
    refine Z_icmp_ge (n := 6) (t := 15) dX0_goInto_3 rfl (by decide) (fun c3 => ?_) (fun c3 => ?_)
    · 
      refine Z_vret dX0_goInto_15 rfl ?_
      exact ⟨rfl, fun h => h⟩
    · omega
  | succ k ih =>
    refine ZN_of (L := [_, _, _, _, _]) (by decide) rfl rfl (Nat.le_of_ble_eq_true rfl) rfl (fun hav => ?_)
    refine Z_rg b 4 (nTg hb) (fun g4 g4b => ?_)
    refine Z_iload_n (n := 1) dX0_goInto_0 rfl rfl ?_
    refine Z_bipush (n := 3) dX0_goInto_1 rfl (by decide) (by decide) ?_
    refine Z_icmp_ge (n := 6) (t := 15) dX0_goInto_3 rfl (by decide) (fun c3 => ?_) (fun c3 => ?_)
    · 
      refine Z_vret dX0_goInto_15 rfl ?_
      exact ⟨rfl, fun h => h⟩
    · refine Z_aload_n (n := 7) dX0_goInto_6 rfl rfl ?_
      refine Z_getA (n := 10) dX0_goInto_7 rfl ffX0_21 (by first | exact nS0 hb | exact nS1 hb | exact nS2 hb | exact nS3 hb | exact nS4 hb | exact nP0 hb | exact nP1 hb | exact nP2 hb | exact nP3 hb | rfl) (by first | exact nS0 hb | exact nS1 hb | exact nS2 hb | exact nS3 hb | exact nS4 hb | exact nP0 hb | exact nP1 hb | exact nP2 hb | exact nP3 hb | rfl) ?_
      refine Z_iload_n (n := 11) dX0_goInto_10 rfl rfl ?_
      refine Z_iald (n := 12) dX0_goInto_11 rfl (by first | exact nS0 hb | exact nS1 hb | exact nS2 hb | exact nS3 hb | exact nS4 hb | exact nP0 hb | exact nP1 hb | exact nP2 hb | exact nP3 hb | rfl) (by first | exact nTg hb | exact nTo hb | exact nT1 hb | exact nT2 hb | exact nT3 hb | exact nT4 hb | rfl) (by first | decide | assumption) (by omega) (by omega) (fun r11 s11 => ?_)
      try simp only [uz_oo (show b + 1 ≠ b + 4 by omega), uz_oo (show b + 2 ≠ b + 4 by omega)] at r11 s11 ⊢
      refine Z_if_eq (n := 15) (t := 16) dX0_goInto_12 rfl (by decide) (fun c12 => ?_) (fun c12 => ?_)
      · refine Z_aload_n (n := 17) dX0_goInto_16 rfl rfl ?_
        refine Z_getA (n := 20) dX0_goInto_17 rfl ffX0_21 (by first | exact nS0 hb | exact nS1 hb | exact nS2 hb | exact nS3 hb | exact nS4 hb | exact nP0 hb | exact nP1 hb | exact nP2 hb | exact nP3 hb | rfl) (by first | exact nS0 hb | exact nS1 hb | exact nS2 hb | exact nS3 hb | exact nS4 hb | exact nP0 hb | exact nP1 hb | exact nP2 hb | exact nP3 hb | rfl) ?_
        refine Z_iload_n (n := 21) dX0_goInto_20 rfl rfl ?_
        refine Z_iconst (n := 22) dX0_goInto_21 rfl (by decide) ?_
        refine Z_iast (n := 23) dX0_goInto_22 rfl (by first | exact nS0 hb | exact nS1 hb | exact nS2 hb | exact nS3 hb | exact nS4 hb | exact nP0 hb | exact nP1 hb | exact nP2 hb | exact nP3 hb | rfl) (by first | exact nTg hb | exact nTo hb | exact nT1 hb | exact nT2 hb | exact nT3 hb | exact nT4 hb | rfl) (by first | decide | assumption) (by omega) (by omega) (by first | assumption | omega | decide) (by first | assumption | omega | decide) (by unfold kGo; omega) ?_
        refine Z_aload_n (n := 24) dX0_goInto_23 rfl rfl ?_
        refine Z_getA (n := 27) dX0_goInto_24 rfl ffX0_9 (by first | exact nS0 hb | exact nS1 hb | exact nS2 hb | exact nS3 hb | exact nS4 hb | exact nP0 hb | exact nP1 hb | exact nP2 hb | exact nP3 hb | rfl) (by first | exact nS0 hb | exact nS1 hb | exact nS2 hb | exact nS3 hb | exact nS4 hb | exact nP0 hb | exact nP1 hb | exact nP2 hb | exact nP3 hb | rfl) ?_
        refine Z_iload_n (n := 28) dX0_goInto_27 rfl rfl ?_
        refine Z_iald (n := 29) dX0_goInto_28 rfl (by first | exact nS0 hb | exact nS1 hb | exact nS2 hb | exact nS3 hb | exact nS4 hb | exact nP0 hb | exact nP1 hb | exact nP2 hb | exact nP3 hb | rfl) (by first | exact nTg hb | exact nTo hb | exact nT1 hb | exact nT2 hb | exact nT3 hb | exact nT4 hb | rfl) (by first | decide | assumption) (by omega) (by omega) (fun r28 s28 => ?_)
        try simp only [uz_oo (show b + 1 ≠ b + 4 by omega), uz_oo (show b + 2 ≠ b + 4 by omega)] at r28 s28 ⊢
        refine Z_if_ne (n := 32) (t := 42) dX0_goInto_29 rfl (by decide) (fun c29 => ?_) (fun c29 => ?_)
        · have hm0 : oMet M → oMet (uz M (b + 4) g 1) := fun h => oMet_fr h (uz_o (by omega)) (uz_o (by omega))
          refine Z_iconst (n := 43) dX0_goInto_42 rfl (by decide) ?_
          refine Z_istore (L' := [_, _, _, _, _]) (n := 45) dX0_goInto_43 rfl (by decide) rfl rfl ?_
          have lp45 : ∀ (N45 : Nat) (i : Int) (M45 : zM) (J45 : zJ), ((3 - i).toNat) < N45 → (J45 = J) → (0 ≤ i) → (i ≤ 3) → (oMet M → oMet M45) → TZ G mX0_goInto (tl_rm ((k + 1) + 2) 0 0) 0 0 (kGo b) M J 45 [some (vR b), some (vI g), some (vR 2), some (vI e), some (vI i)] [] F1 M45 J45 (ZM G (zPost G (kGo b) F1 M J (qV (fun M' J' => J' = J ∧ (oMet M → oMet M')))) 0 0) := by
            intro N45
            induction N45 with
            | zero => intro i M45 J45 hN; omega
            | succ N45 ih45 =>
              intro i M45 J45 hN45 i45_0 i45_1 i45_2 i45_3
              refine Z_iload (n := 47) dX0_goInto_45 rfl rfl ?_
              refine Z_fr (fun fr45 => ?_)
              have hk : M45 (b + 1) g = M (b + 1) g := congrFun (fr45 (b + 1) (by unfold kGo; omega)).1 g
              have hN45 : netOK M45 b := netOK_fr hN (fr45 b (by unfold kGo; omega)).1 (fr45 (b + 1) (by unfold kGo; omega)).1 (fr45 (b + 2) (by unfold kGo; omega)).1 (fr45 (b + 3) (by unfold kGo; omega)).1
              have hb4 : M45 b 4 = M b 4 := congrFun (fr45 b (by unfold kGo; omega)).1 4
              refine Z_getsN (i := 1) (n := 50) dX0_goInto_47 rfl (by decide) (by decide) rfl rfl ?_
              refine Z_aload_n (n := 51) dX0_goInto_50 rfl rfl ?_
              refine Z_getA (n := 54) dX0_goInto_51 rfl ffX0_9 (by first | exact nS0 hb | exact nS1 hb | exact nS2 hb | exact nS3 hb | exact nS4 hb | exact nP0 hb | exact nP1 hb | exact nP2 hb | exact nP3 hb | rfl) (by first | exact nS0 hb | exact nS1 hb | exact nS2 hb | exact nS3 hb | exact nS4 hb | exact nP0 hb | exact nP1 hb | exact nP2 hb | exact nP3 hb | rfl) ?_
              refine Z_iload_n (n := 55) dX0_goInto_54 rfl rfl ?_
              refine Z_iald (n := 56) dX0_goInto_55 rfl (by first | exact nS0 hb | exact nS1 hb | exact nS2 hb | exact nS3 hb | exact nS4 hb | exact nP0 hb | exact nP1 hb | exact nP2 hb | exact nP3 hb | rfl) (by first | exact nTg hb | exact nTo hb | exact nT1 hb | exact nT2 hb | exact nT3 hb | exact nT4 hb | rfl) (by first | decide | assumption) (by omega) (by omega) (fun r55 s55 => ?_)
              try simp only [uz_oo (show b + 1 ≠ b + 4 by omega), uz_oo (show b + 2 ≠ b + 4 by omega)] at r55 s55 ⊢
              refine Z_ialdS1 (n := 57) dX0_goInto_56 rfl (by omega) (by omega) (fun r56 s56 => ?_)
              try simp only [uz_oo (show b + 1 ≠ b + 4 by omega), uz_oo (show b + 2 ≠ b + 4 by omega)] at r56 s56 ⊢
              refine Z_icmp_ge (n := 60) (t := 81) dX0_goInto_57 rfl (by decide) (fun c57 => ?_) (fun c57 => ?_)
              · refine Z_vret dX0_goInto_81 rfl ?_
                exact ⟨i45_0, i45_3⟩
              · refine Z_aload_n (n := 61) dX0_goInto_60 rfl rfl ?_
                refine Z_aload_n (n := 62) dX0_goInto_61 rfl rfl ?_
                refine Z_iload_n (n := 63) dX0_goInto_62 rfl rfl ?_
                refine Z_iload (n := 65) dX0_goInto_63 rfl rfl ?_
                refine Z_callVi (n := 68) [_, _] _ dX0_goInto_65 rfl cwX0_42 rfl rfl (by first | exact nS0 hb | exact nS1 hb | exact nS2 hb | exact nS3 hb | exact nS4 hb | exact nP0 hb | exact nP1 hb | exact nP2 hb | exact nP3 hb | rfl) (Nat.le_of_ble_eq_true rfl) ⟨by show 0 + 1 ≤ ((k + 1) + 2); omega, by show 8 + (3 + 11) + 40 * 0 ≤ 40 * ((k + 1) + 2); omega, Nat.le_refl _, Nat.le_refl _⟩ (fun _ _ => trivial) (zX0_operand  (by first | assumption | omega | decide) (by first | assumption | omega | decide) (by first | assumption | omega | decide) (by first | assumption | omega | decide) (by first | assumption | omega | decide)) ?_
                intro x65 M65 J65 z65 f65 q65
                obtain ⟨e65_1, e65_2, h65⟩ := q65
                replace e65_1 := e65_1.symm; subst e65_1
                replace e65_2 := e65_2.symm; subst e65_2
                rw [congrFun (fr45 (b + 2) (by unfold kGo; omega)).1 _] at h65
                have hop := (hN.1 g h0 h1).1 i (by omega) (by rw [← hk]; omega)
                rw [← h65] at hop
                refine Z_aload_n (n := 69) dX0_goInto_68 rfl rfl ?_
                refine Z_iload_n (n := 70) dX0_goInto_69 rfl rfl ?_
                refine Z_iconst (n := 71) dX0_goInto_70 rfl (by decide) ?_
                refine Z_iadd (n := 72) dX0_goInto_71 rfl (by omega) ?_
                refine Z_callVv (n := 75) [_, _, _] _ dX0_goInto_72 rfl cwX0_58 rfl rfl (by first | exact nS0 hb | exact nS1 hb | exact nS2 hb | exact nS3 hb | exact nS4 hb | exact nP0 hb | exact nP1 hb | exact nP2 hb | exact nP3 hb | rfl) (Nat.le_of_ble_eq_true rfl) ⟨by show (k + 2) + 1 ≤ ((k + 1) + 2); omega, by show 8 + (5 + 11) + 40 * (k + 2) ≤ 40 * ((k + 1) + 2); omega, Nat.le_refl _, Nat.le_refl _⟩ (fun _ h => h) (@ih _ _ _ _  (by first | assumption | omega | decide) (by first | assumption | omega | decide) (by first | assumption | omega | decide) (by first | assumption | omega | decide) (by first | assumption | omega | decide)) ?_
                intro M72 J72 f72 q72
                obtain ⟨e72_1, h72⟩ := q72
                replace e72_1 := e72_1.symm; subst e72_1
                refine Z_iinc (L' := [_, _, _, _, _]) (n := 78) dX0_goInto_75 rfl rfl (by decide) rfl rfl (by omega) rfl ?_
                refine Z_goto (t := 45) dX0_goInto_78 (by decide) ?_
                refine Z_loc (L' := [some _, some _, some _, some _, some _]) (lsub_same (lsub_same (lsub_same (lsub_same (lsub_same lsub_nil))))) ?_
                exact ih45 _ _ _ (by omega) (by first | rfl | assumption) (by first | assumption | omega | decide) (by first | assumption | omega | decide) (by first | exact hm0 | exact hm1 | exact fun h => h72 (i45_3 h))
          refine Z_loc (L' := [some _, some _, some _, some _, some _]) (lsub_same (lsub_same (lsub_same (lsub_same (lsub_same lsub_nil))))) ?_
          exact lp45 _ _ _ _ (Nat.lt_succ_self _) (by first | rfl | assumption) (by first | assumption | omega | decide) (by first | assumption | omega | decide) (by first | exact hm0 | exact hm1 | exact fun h => h72 (i45_3 h))
        · refine Z_aload_n (n := 33) dX0_goInto_32 rfl rfl ?_
          refine Z_aload_n (n := 34) dX0_goInto_33 rfl rfl ?_
          refine Z_iload_n (n := 35) dX0_goInto_34 rfl rfl ?_
          refine Z_iconst (n := 36) dX0_goInto_35 rfl (by decide) ?_
          have ho0 := (hN.1 g h0 h1).2 (by omega)
          refine Z_callVi (n := 39) [_, _] _ dX0_goInto_36 rfl cwX0_42 rfl rfl (by first | exact nS0 hb | exact nS1 hb | exact nS2 hb | exact nS3 hb | exact nS4 hb | exact nP0 hb | exact nP1 hb | exact nP2 hb | exact nP3 hb | rfl) (Nat.le_of_ble_eq_true rfl) ⟨by show 0 + 1 ≤ ((k + 1) + 2); omega, by show 8 + (3 + 11) + 40 * 0 ≤ 40 * ((k + 1) + 2); omega, Nat.le_refl _, Nat.le_refl _⟩ (fun _ _ => trivial) (zX0_operand  (by first | assumption | omega | decide) (by omega) (by omega) (by omega) (by omega)) ?_
          intro x36 M36 J36 z36 f36 q36
          obtain ⟨e36_1, e36_2, h36⟩ := q36
          replace e36_1 := e36_1.symm; subst e36_1
          replace e36_2 := e36_2.symm; subst e36_2
          rw [uz_oo (show b + 2 ≠ b + 4 by omega), show 3 * g + 0 = 3 * g by omega] at h36
          have ho0 := (hN.1 g h0 h1).2 (by omega)
          refine Z_ok (fun ok39 => ?_)
          refine Z_callVv (n := 42) [_] _ dX0_goInto_39 rfl cwX0_62 rfl rfl (by first | exact nS0 hb | exact nS1 hb | exact nS2 hb | exact nS3 hb | exact nS4 hb | exact nP0 hb | exact nP1 hb | exact nP2 hb | exact nP3 hb | rfl) (Nat.le_of_ble_eq_true rfl) ⟨by show 1 + 1 ≤ ((k + 1) + 2); omega, by show 8 + (2 + 11) + 40 * 1 ≤ 40 * ((k + 1) + 2); omega, Nat.le_refl _, Nat.le_refl _⟩ (fun _ h => h) (zX1_meet  (by omega) (by omega) (by unfold kGo; omega) (by unfold kGo; omega) (by unfold kGo; omega)) ?_
          intro M39 J39 f39 q39
          obtain ⟨e39_1, h39⟩ := q39
          replace e39_1 := e39_1.symm; subst e39_1
          have hm1 : oMet M → oMet M39 := by
            intro h
            have h8 : oMet (uz M (b + 4) g 1) := oMet_fr h (uz_o (by omega)) (uz_o (by omega))
            rcases h39 with ⟨q1, q2, rfl⟩ | ⟨q1, rfl⟩
            · exact oMet_meet (by omega) (by omega) h8 ok39 q1
            · exact h8
          have hm0 : oMet M → oMet (uz M (b + 4) g 1) := fun h => oMet_fr h (uz_o (by omega)) (uz_o (by omega))
          refine Z_iconst (n := 43) dX0_goInto_42 rfl (by decide) ?_
          refine Z_istore (L' := [_, _, _, _, _]) (n := 45) dX0_goInto_43 rfl (by decide) rfl rfl ?_
          have lp45 : ∀ (N45 : Nat) (i : Int) (M45 : zM) (J45 : zJ), ((3 - i).toNat) < N45 → (J45 = J) → (0 ≤ i) → (i ≤ 3) → (oMet M → oMet M45) → TZ G mX0_goInto (tl_rm ((k + 1) + 2) 0 0) 0 0 (kGo b) M J 45 [some (vR b), some (vI g), some (vR 2), some (vI e), some (vI i)] [] F1 M45 J45 (ZM G (zPost G (kGo b) F1 M J (qV (fun M' J' => J' = J ∧ (oMet M → oMet M')))) 0 0) := by
            intro N45
            induction N45 with
            | zero => intro i M45 J45 hN; omega
            | succ N45 ih45 =>
              intro i M45 J45 hN45 i45_0 i45_1 i45_2 i45_3
              refine Z_iload (n := 47) dX0_goInto_45 rfl rfl ?_
              refine Z_fr (fun fr45 => ?_)
              have hk : M45 (b + 1) g = M (b + 1) g := congrFun (fr45 (b + 1) (by unfold kGo; omega)).1 g
              have hN45 : netOK M45 b := netOK_fr hN (fr45 b (by unfold kGo; omega)).1 (fr45 (b + 1) (by unfold kGo; omega)).1 (fr45 (b + 2) (by unfold kGo; omega)).1 (fr45 (b + 3) (by unfold kGo; omega)).1
              have hb4 : M45 b 4 = M b 4 := congrFun (fr45 b (by unfold kGo; omega)).1 4
              refine Z_getsN (i := 1) (n := 50) dX0_goInto_47 rfl (by decide) (by decide) rfl rfl ?_
              refine Z_aload_n (n := 51) dX0_goInto_50 rfl rfl ?_
              refine Z_getA (n := 54) dX0_goInto_51 rfl ffX0_9 (by first | exact nS0 hb | exact nS1 hb | exact nS2 hb | exact nS3 hb | exact nS4 hb | exact nP0 hb | exact nP1 hb | exact nP2 hb | exact nP3 hb | rfl) (by first | exact nS0 hb | exact nS1 hb | exact nS2 hb | exact nS3 hb | exact nS4 hb | exact nP0 hb | exact nP1 hb | exact nP2 hb | exact nP3 hb | rfl) ?_
              refine Z_iload_n (n := 55) dX0_goInto_54 rfl rfl ?_
              refine Z_iald (n := 56) dX0_goInto_55 rfl (by first | exact nS0 hb | exact nS1 hb | exact nS2 hb | exact nS3 hb | exact nS4 hb | exact nP0 hb | exact nP1 hb | exact nP2 hb | exact nP3 hb | rfl) (by first | exact nTg hb | exact nTo hb | exact nT1 hb | exact nT2 hb | exact nT3 hb | exact nT4 hb | rfl) (by first | decide | assumption) (by omega) (by omega) (fun r55 s55 => ?_)
              try simp only [uz_oo (show b + 1 ≠ b + 4 by omega), uz_oo (show b + 2 ≠ b + 4 by omega)] at r55 s55 ⊢
              refine Z_ialdS1 (n := 57) dX0_goInto_56 rfl (by omega) (by omega) (fun r56 s56 => ?_)
              try simp only [uz_oo (show b + 1 ≠ b + 4 by omega), uz_oo (show b + 2 ≠ b + 4 by omega)] at r56 s56 ⊢
              refine Z_icmp_ge (n := 60) (t := 81) dX0_goInto_57 rfl (by decide) (fun c57 => ?_) (fun c57 => ?_)
              · refine Z_vret dX0_goInto_81 rfl ?_
                exact ⟨i45_0, i45_3⟩
              · refine Z_aload_n (n := 61) dX0_goInto_60 rfl rfl ?_
                refine Z_aload_n (n := 62) dX0_goInto_61 rfl rfl ?_
                refine Z_iload_n (n := 63) dX0_goInto_62 rfl rfl ?_
                refine Z_iload (n := 65) dX0_goInto_63 rfl rfl ?_
                refine Z_callVi (n := 68) [_, _] _ dX0_goInto_65 rfl cwX0_42 rfl rfl (by first | exact nS0 hb | exact nS1 hb | exact nS2 hb | exact nS3 hb | exact nS4 hb | exact nP0 hb | exact nP1 hb | exact nP2 hb | exact nP3 hb | rfl) (Nat.le_of_ble_eq_true rfl) ⟨by show 0 + 1 ≤ ((k + 1) + 2); omega, by show 8 + (3 + 11) + 40 * 0 ≤ 40 * ((k + 1) + 2); omega, Nat.le_refl _, Nat.le_refl _⟩ (fun _ _ => trivial) (zX0_operand  (by first | assumption | omega | decide) (by first | assumption | omega | decide) (by first | assumption | omega | decide) (by first | assumption | omega | decide) (by first | assumption | omega | decide)) ?_
                intro x65 M65 J65 z65 f65 q65
                obtain ⟨e65_1, e65_2, h65⟩ := q65
                replace e65_1 := e65_1.symm; subst e65_1
                replace e65_2 := e65_2.symm; subst e65_2
                rw [congrFun (fr45 (b + 2) (by unfold kGo; omega)).1 _] at h65
                have hop := (hN.1 g h0 h1).1 i (by omega) (by rw [← hk]; omega)
                rw [← h65] at hop
                refine Z_aload_n (n := 69) dX0_goInto_68 rfl rfl ?_
                refine Z_iload_n (n := 70) dX0_goInto_69 rfl rfl ?_
                refine Z_iconst (n := 71) dX0_goInto_70 rfl (by decide) ?_
                refine Z_iadd (n := 72) dX0_goInto_71 rfl (by omega) ?_
                refine Z_callVv (n := 75) [_, _, _] _ dX0_goInto_72 rfl cwX0_58 rfl rfl (by first | exact nS0 hb | exact nS1 hb | exact nS2 hb | exact nS3 hb | exact nS4 hb | exact nP0 hb | exact nP1 hb | exact nP2 hb | exact nP3 hb | rfl) (Nat.le_of_ble_eq_true rfl) ⟨by show (k + 2) + 1 ≤ ((k + 1) + 2); omega, by show 8 + (5 + 11) + 40 * (k + 2) ≤ 40 * ((k + 1) + 2); omega, Nat.le_refl _, Nat.le_refl _⟩ (fun _ h => h) (@ih _ _ _ _  (by first | assumption | omega | decide) (by first | assumption | omega | decide) (by first | assumption | omega | decide) (by first | assumption | omega | decide) (by first | assumption | omega | decide)) ?_
                intro M72 J72 f72 q72
                obtain ⟨e72_1, h72⟩ := q72
                replace e72_1 := e72_1.symm; subst e72_1
                refine Z_iinc (L' := [_, _, _, _, _]) (n := 78) dX0_goInto_75 rfl rfl (by decide) rfl rfl (by omega) rfl ?_
                refine Z_goto (t := 45) dX0_goInto_78 (by decide) ?_
                refine Z_loc (L' := [some _, some _, some _, some _, some _]) (lsub_same (lsub_same (lsub_same (lsub_same (lsub_same lsub_nil))))) ?_
                exact ih45 _ _ _ (by omega) (by first | rfl | assumption) (by first | assumption | omega | decide) (by first | assumption | omega | decide) (by first | exact hm0 | exact hm1 | exact fun h => h72 (i45_3 h))
          refine Z_loc (L' := [some _, some _, some _, some _, some _]) (lsub_same (lsub_same (lsub_same (lsub_same (lsub_same lsub_nil))))) ?_
          exact lp45 _ _ _ _ (Nat.lt_succ_self _) (by first | rfl | assumption) (by first | assumption | omega | decide) (by first | assumption | omega | decide) (by first | exact hm0 | exact hm1 | exact fun h => h72 (i45_3 h))
      · 
        refine Z_vret dX0_goInto_15 rfl ?_
        exact ⟨rfl, fun h => h⟩
set_option maxRecDepth 20000 in
theorem zX0_meetVariables {G : tl_G} {M : zM} {J : zJ} {b : Nat}  (hb : NetAt b) (hN : netOK M b) : ZN G yX0_meetVariables mX0_meetVariables 43 (kGo b) [vR b, vR 2] F1 M J (qV (fun M' J' => J' = J ∧ (oMet M → oMet M') ∧ (M b 5 = 0 → M' 2 = M 2))) := by
  refine ZN_of (L := [_, _, _]) (by decide) rfl rfl (Nat.le_of_ble_eq_true rfl) rfl (fun hav => ?_)
  refine Z_rg b 5 (nTo hb) (fun g5 g5b => ?_)
  refine Z_rg b 4 (nTg hb) (fun g4 g4b => ?_)
  refine Z_aload_n (n := 1) dX0_meetVariables_0 rfl rfl ?_
  refine Z_getA (n := 4) dX0_meetVariables_1 rfl ffX0_21 (by first | exact nS0 hb | exact nS1 hb | exact nS2 hb | exact nS3 hb | exact nS4 hb | exact nP0 hb | exact nP1 hb | exact nP2 hb | exact nP3 hb | rfl) (by first | exact nS0 hb | exact nS1 hb | exact nS2 hb | exact nS3 hb | exact nS4 hb | exact nP0 hb | exact nP1 hb | exact nP2 hb | exact nP3 hb | rfl) ?_
  refine Z_iconst (n := 5) dX0_meetVariables_4 rfl (by decide) ?_
  refine Z_callSv (n := 8) [_, _] _ dX0_meetVariables_5 rfl cwX0_48 rfl rfl (Nat.le_of_ble_eq_true rfl) (by refine ⟨?_, ?_, ?_, ?_⟩ <;> exact Nat.le_of_ble_eq_true rfl) (fun _ h => h) (zJ7_fill_53178  (by exact nS4 hb) (by decide) (by exact fun _ => nT4 hb) (by decide) (by decide) (by unfold kGo; omega)) ?_
  intro M5 J5 f5 q5
  obtain ⟨e5_1, e5_2⟩ := q5
  replace e5_1 := e5_1.symm; subst e5_1
  replace e5_2 := e5_2.symm; subst e5_2
  have hm0 : oMet M → oMet (fillz M (b + 4) (40 : Nat) 0) := fun h => oMet_fr h (fillz_o (by omega)) (fillz_o (by omega))
  refine Z_iconst (n := 9) dX0_meetVariables_8 rfl (by decide) ?_
  refine Z_istore_n (L' := [_, _, _]) (n := 10) dX0_meetVariables_9 rfl (by decide) rfl rfl ?_
  have lp10 : ∀ (N10 : Nat) (o : Int) (M10 : zM) (J10 : zJ), ((4 - o).toNat) < N10 → (J10 = J) → (0 ≤ o) → (o ≤ 4) → (oMet M → oMet M10) → (M b 5 = 0 → M10 2 = M 2) → TZ G mX0_meetVariables (tl_rm 43 0 0) 0 0 (kGo b) M J 10 [some (vR b), some (vR 2), some (vI o)] [] F1 M10 J10 (ZM G (zPost G (kGo b) F1 M J (qV (fun M' J' => J' = J ∧ (oMet M → oMet M') ∧ (M b 5 = 0 → M' 2 = M 2)))) 0 0) := by
    intro N10
    induction N10 with
    | zero => intro o M10 J10 hN; omega
    | succ N10 ih10 =>
      intro o M10 J10 hN10 i10_0 i10_1 i10_2 i10_3 i10_4
      refine Z_iload_n (n := 11) dX0_meetVariables_10 rfl rfl ?_
      refine Z_fr (fun fr10 => ?_)
      have hN10 : netOK M10 b := netOK_fr hN (fr10 b (by unfold kGo; omega)).1 (fr10 (b + 1) (by unfold kGo; omega)).1 (fr10 (b + 2) (by unfold kGo; omega)).1 (fr10 (b + 3) (by unfold kGo; omega)).1
      have hb5 : M10 b 5 = M b 5 := congrFun (fr10 b (by unfold kGo; omega)).1 5
      refine Z_aload_n (n := 12) dX0_meetVariables_11 rfl rfl ?_
      refine Z_getI (n := 15) (ki := 5) dX0_meetVariables_12 rfl ffX0_28 rfl (by first | exact nS0 hb | exact nS1 hb | exact nS2 hb | exact nS3 hb | exact nS4 hb | exact nP0 hb | exact nP1 hb | exact nP2 hb | exact nP3 hb | rfl) (by first | exact nTg hb | exact nTo hb | exact nT1 hb | exact nT2 hb | exact nT3 hb | exact nT4 hb | rfl) (fun r12 s12 => ?_)
      refine Z_icmp_ge (n := 18) (t := 36) dX0_meetVariables_15 rfl (by decide) (fun c15 => ?_) (fun c15 => ?_)
      · refine Z_vret dX0_meetVariables_36 rfl ?_
        exact ⟨i10_0, i10_3, i10_4⟩
      · refine Z_aload_n (n := 19) dX0_meetVariables_18 rfl rfl ?_
        refine Z_aload_n (n := 20) dX0_meetVariables_19 rfl rfl ?_
        refine Z_getA (n := 23) dX0_meetVariables_20 rfl ffX0_18 (by first | exact nS0 hb | exact nS1 hb | exact nS2 hb | exact nS3 hb | exact nS4 hb | exact nP0 hb | exact nP1 hb | exact nP2 hb | exact nP3 hb | rfl) (by first | exact nS0 hb | exact nS1 hb | exact nS2 hb | exact nS3 hb | exact nS4 hb | exact nP0 hb | exact nP1 hb | exact nP2 hb | exact nP3 hb | rfl) ?_
        refine Z_iload_n (n := 24) dX0_meetVariables_23 rfl rfl ?_
        refine Z_iald (n := 25) dX0_meetVariables_24 rfl (by first | exact nS0 hb | exact nS1 hb | exact nS2 hb | exact nS3 hb | exact nS4 hb | exact nP0 hb | exact nP1 hb | exact nP2 hb | exact nP3 hb | rfl) (by first | exact nTg hb | exact nTo hb | exact nT1 hb | exact nT2 hb | exact nT3 hb | exact nT4 hb | rfl) (by first | decide | assumption) (by omega) (by omega) (fun r24 s24 => ?_)
        have ho := hN10.2 o (by omega) (by omega)
        refine Z_aload_n (n := 26) dX0_meetVariables_25 rfl rfl ?_
        refine Z_iconst (n := 27) dX0_meetVariables_26 rfl (by decide) ?_
        refine Z_callVv (n := 30) [_, _, _] _ dX0_meetVariables_27 rfl cwX0_58 rfl rfl (by first | exact nS0 hb | exact nS1 hb | exact nS2 hb | exact nS3 hb | exact nS4 hb | exact nP0 hb | exact nP1 hb | exact nP2 hb | exact nP3 hb | rfl) (Nat.le_of_ble_eq_true rfl) (by refine ⟨?_, ?_, ?_, ?_⟩ <;> exact Nat.le_of_ble_eq_true rfl) (fun _ h => h) (zX0_goInto 40  (by first | assumption | omega | decide) (by first | assumption | omega | decide) (by omega) (by omega) (by omega) (by omega)) ?_
        intro M27 J27 f27 q27
        obtain ⟨e27_1, h27⟩ := q27
        replace e27_1 := e27_1.symm; subst e27_1
        refine Z_iinc (L' := [_, _, _]) (n := 33) dX0_meetVariables_30 rfl rfl (by decide) rfl rfl (by omega) rfl ?_
        refine Z_goto (t := 10) dX0_meetVariables_33 (by decide) ?_
        refine Z_loc (L' := [some _, some _, some _]) (lsub_same (lsub_same (lsub_same lsub_nil))) ?_
        exact ih10 _ _ _ (by omega) (by first | rfl | assumption) (by first | assumption | omega | decide) (by first | assumption | omega | decide) (by first | exact hm0 | exact fun h => h27 (i10_3 h)) (by first | exact fun _ => fillz_o (by omega) | exact fun q => by omega)
  refine Z_loc (L' := [some _, some _, some _]) (lsub_same (lsub_same (lsub_same lsub_nil))) ?_
  exact lp10 _ _ _ _ (Nat.lt_succ_self _) (by first | rfl | assumption) (by first | assumption | omega | decide) (by first | assumption | omega | decide) (by first | exact hm0 | exact fun h => h27 (i10_3 h)) (by first | exact fun _ => fillz_o (by omega) | exact fun q => by omega)
