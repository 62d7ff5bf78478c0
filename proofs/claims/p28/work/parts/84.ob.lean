/-! ===== the class: order, move ===== -/
abbrev kOc (a : Nat) : Prop := ¬ a = 2 ∧ ¬ a = 3 ∧ ¬ a = 4 ∧ ¬ a = 20 ∧ ¬ a = 25 ∧ ¬ a = 30
set_option maxRecDepth 20000 in
theorem zX0_goInto_f {G : tl_G} {M : zM} {J : zJ} {b : Nat} (k : Nat) {g e : Int} (hb : NetAt b) (hN : netOK M b) (h0 : 0 ≤ g) (h1 : g < M b 4) (h6 : 0 ≤ e) (h7 : e + k = 40) : ZN G yX0_goInto mX0_goInto (k + 2) (kGo b) [vR b, vI g, vR 2, vI e] F1 M J (qV (fun M' J' => J' = J ∧ (oMet M → oMet M' ∧ sc b M' = vs (M (b + 1)) (fun g c => M (b + 2) (3 * g + c)) (40 - e).toNat g (sc b M)))) := by
  induction k generalizing M J g e with
  | zero =>
    refine ZN_of (L := [_, _, _, _, _]) (by decide) rfl rfl (Nat.le_of_ble_eq_true rfl) rfl (fun hav => ?_)
    refine Z_rg b 4 (nTg hb) (fun g4 g4b => ?_)
    have hb4z : 4 < b := by rcases hb with q | q | q <;> omega
    refine Z_iload_n (n := 1) dX0_goInto_0 rfl rfl ?_
    refine Z_bipush (n := 3) dX0_goInto_1 rfl (by decide) (by decide) ?_
    refine Z_icmp_ge (n := 6) (t := 15) dX0_goInto_3 rfl (by decide) (fun c3 => ?_) (fun c3 => ?_)
    · 
      refine Z_vret dX0_goInto_15 rfl ?_
      first
        | (exfalso; omega)
        | exact ⟨rfl, fun h => ⟨h, by rw [show (40 - e).toNat = 0 by omega]; rfl⟩⟩
        | exact ⟨rfl, fun h => ⟨h, by rw [show (40 - e).toNat = (40 - (e + 1)).toNat + 1 by omega]; exact (if_neg (fun t => c12 ((rs_in (n := 40) h0 (by omega)).symm.trans t))).symm⟩⟩
    · omega
  | succ k ih =>
    refine ZN_of (L := [_, _, _, _, _]) (by decide) rfl rfl (Nat.le_of_ble_eq_true rfl) rfl (fun hav => ?_)
    refine Z_rg b 4 (nTg hb) (fun g4 g4b => ?_)
    have hb4z : 4 < b := by rcases hb with q | q | q <;> omega
    refine Z_iload_n (n := 1) dX0_goInto_0 rfl rfl ?_
    refine Z_bipush (n := 3) dX0_goInto_1 rfl (by decide) (by decide) ?_
    refine Z_icmp_ge (n := 6) (t := 15) dX0_goInto_3 rfl (by decide) (fun c3 => ?_) (fun c3 => ?_)
    · 
      refine Z_vret dX0_goInto_15 rfl ?_
      first
        | (exfalso; omega)
        | exact ⟨rfl, fun h => ⟨h, by rw [show (40 - e).toNat = 0 by omega]; rfl⟩⟩
        | exact ⟨rfl, fun h => ⟨h, by rw [show (40 - e).toNat = (40 - (e + 1)).toNat + 1 by omega]; exact (if_neg (fun t => c12 ((rs_in (n := 40) h0 (by omega)).symm.trans t))).symm⟩⟩
    · refine Z_aload_n (n := 7) dX0_goInto_6 rfl rfl ?_
      refine Z_getA (n := 10) dX0_goInto_7 rfl ffX0_21 (by first | exact nS0 hb | exact nS1 hb | exact nS2 hb | exact nS3 hb | exact nS4 hb | exact nP0 hb | exact nP1 hb | exact nP2 hb | exact nP3 hb | rfl) (by first | exact nS0 hb | exact nS1 hb | exact nS2 hb | exact nS3 hb | exact nS4 hb | exact nP0 hb | exact nP1 hb | exact nP2 hb | exact nP3 hb | rfl) ?_
      refine Z_iload_n (n := 11) dX0_goInto_10 rfl rfl ?_
      refine Z_iald (n := 12) dX0_goInto_11 rfl (by first | exact nS0 hb | exact nS1 hb | exact nS2 hb | exact nS3 hb | exact nS4 hb | exact nP0 hb | exact nP1 hb | exact nP2 hb | exact nP3 hb | rfl) (by first | exact nTg hb | exact nTo hb | exact nT1 hb | exact nT2 hb | exact nT3 hb | exact nT4 hb | rfl) (by first | decide | assumption) (by omega) (by omega) (fun r11 s11 => ?_)
      try simp only [uz_oo (show b + 1 ≠ b + 4 by omega), uz_oo (show b + 2 ≠ b + 4 by omega)] at r11 s11 ⊢
      refine Z_if_eq (n := 15) (t := 16) dX0_goInto_12 rfl (by decide) (fun c12 => ?_) (fun c12 => ?_)
      · refine Z_aload_n (n := 17) dX0_goInto_16 rfl rfl ?_
        refine Z_getA (n := 20) dX0_goInto_17 rfl ffX0_21 (by first | exact nS0 hb | exact nS1 hb | exact nS2 hb | exact nS3 hb | exact nS4 hb | exact nP0 hb | exact nP1 hb | exact nP2 hb | exact nP3 hb | rfl) (by first | exact nS0 hb | exact nS1 hb | exact nS2 hb | exact nS3 hb | exact nS4 hb | exact nP0 hb | exact nP1 hb | exact nP2 hb | exact nP3 hb | rfl) ?_
        refine Z_iload_n (n := 21) dX0_goInto_20 rfl rfl ?_
        refine Z_iconst (n := 22) dX0_goInto_21 rfl (by decide) ?_
        refine Z_iast (n := 23) dX0_goInto_22 rfl (by first | exact nS0 hb | exact nS1 hb | exact nS2 hb | exact nS3 hb | exact nS4 hb | exact nP0 hb | exact nP1 hb | exact nP2 hb | exact nP3 hb | rfl) (by first | exact nTg hb | exact nTo hb | exact nT1 hb | exact nT2 hb | exact nT3 hb | exact nT4 hb | rfl) (by first | decide | assumption) (by omega) (by omega) (by first | assumption | omega | decide) (by first | assumption | omega | decide) (by unfold kGo; omega) ?_
        refine Z_aload_n (n := 24) dX0_goInto_23 rfl rfl ?_
        refine Z_getA (n := 27) dX0_goInto_24 rfl ffX0_9 (by first | exact nS0 hb | exact nS1 hb | exact nS2 hb | exact nS3 hb | exact nS4 hb | exact nP0 hb | exact nP1 hb | exact nP2 hb | exact nP3 hb | rfl) (by first | exact nS0 hb | exact nS1 hb | exact nS2 hb | exact nS3 hb | exact nS4 hb | exact nP0 hb | exact nP1 hb | exact nP2 hb | exact nP3 hb | rfl) ?_
        refine Z_iload_n (n := 28) dX0_goInto_27 rfl rfl ?_
        refine Z_iald (n := 29) dX0_goInto_28 rfl (by first | exact nS0 hb | exact nS1 hb | exact nS2 hb | exact nS3 hb | exact nS4 hb | exact nP0 hb | exact nP1 hb | exact nP2 hb | exact nP3 hb | rfl) (by first | exact nTg hb | exact nTo hb | exact nT1 hb | exact nT2 hb | exact nT3 hb | exact nT4 hb | rfl) (by first | decide | assumption) (by omega) (by omega) (fun r28 s28 => ?_)
        try simp only [uz_oo (show b + 1 ≠ b + 4 by omega), uz_oo (show b + 2 ≠ b + 4 by omega)] at r28 s28 ⊢
        refine Z_if_ne (n := 32) (t := 42) dX0_goInto_29 rfl (by decide) (fun c29 => ?_) (fun c29 => ?_)
        · have en3 : oMet M → oMet (uz M (b + 4) g 1) ∧ sc b (uz M (b + 4) g 1) = (ent (M (b + 1)) (fun g c => M (b + 2) (3 * g + c)) g (sc b M)) := fun h => ⟨oMet_fr h (uz_o (by omega)) (uz_o (by omega)), (sc_see hb4z h0 (by omega)).trans (if_neg c29).symm⟩
          refine Z_iconst (n := 43) dX0_goInto_42 rfl (by decide) ?_
          refine Z_istore (L' := [_, _, _, _, _]) (n := 45) dX0_goInto_43 rfl (by decide) rfl rfl ?_
          have lp45 : ∀ (N45 : Nat) (i : Int) (M45 : zM) (J45 : zJ), ((3 - i).toNat) < N45 → (J45 = J) → (0 ≤ i) → (i ≤ opF (M (b + 1) g)) → (oMet M → oMet M45 ∧ sc b M45 = vr (vs (M (b + 1)) (fun g c => M (b + 2) (3 * g + c)) (40 - (e + 1)).toNat) ((fun g c => M (b + 2) (3 * g + c)) g) i.toNat 0 (ent (M (b + 1)) (fun g c => M (b + 2) (3 * g + c)) g (sc b M))) → TZ G mX0_goInto (tl_rm ((k + 1) + 2) 0 0) 0 0 (kGo b) M J 45 [some (vR b), some (vI g), some (vR 2), some (vI e), some (vI i)] [] F1 M45 J45 (ZM G (zPost G (kGo b) F1 M J (qV (fun M' J' => J' = J ∧ (oMet M → oMet M' ∧ sc b M' = vs (M (b + 1)) (fun g c => M (b + 2) (3 * g + c)) (40 - e).toNat g (sc b M))))) 0 0) := by
            intro N45
            induction N45 with
            | zero => intro i M45 J45 hN; omega
            | succ N45 ih45 =>
              intro i M45 J45 hN45 i45_0 i45_1 i45_2 i45_3
              refine Z_iload (n := 47) dX0_goInto_45 rfl rfl ?_
              refine Z_fr (fun fr45 => ?_)
              have hk : M45 (b + 1) g = M (b + 1) g := congrFun (fr45 (b + 1) (by unfold kGo; omega)).1 g
              have hN45 : netOK M45 b := netOK_fr hN (fr45 b (by unfold kGo; omega)).1 (fr45 (b + 1) (by unfold kGo; omega)).1 (fr45 (b + 2) (by unfold kGo; omega)).1 (fr45 (b + 3) (by unfold kGo; omega)).1
              have hb4 : M45 b 4 = M b 4 := congrFun (fr45 b (by unfold kGo; omega)).1 4
              refine Z_getsN (i := 1) (n := 50) dX0_goInto_47 rfl (by decide) (by decide) rfl rfl ?_
              refine Z_aload_n (n := 51) dX0_goInto_50 rfl rfl ?_
              refine Z_getA (n := 54) dX0_goInto_51 rfl ffX0_9 (by first | exact nS0 hb | exact nS1 hb | exact nS2 hb | exact nS3 hb | exact nS4 hb | exact nP0 hb | exact nP1 hb | exact nP2 hb | exact nP3 hb | rfl) (by first | exact nS0 hb | exact nS1 hb | exact nS2 hb | exact nS3 hb | exact nS4 hb | exact nP0 hb | exact nP1 hb | exact nP2 hb | exact nP3 hb | rfl) ?_
              refine Z_iload_n (n := 55) dX0_goInto_54 rfl rfl ?_
              refine Z_iald (n := 56) dX0_goInto_55 rfl (by first | exact nS0 hb | exact nS1 hb | exact nS2 hb | exact nS3 hb | exact nS4 hb | exact nP0 hb | exact nP1 hb | exact nP2 hb | exact nP3 hb | rfl) (by first | exact nTg hb | exact nTo hb | exact nT1 hb | exact nT2 hb | exact nT3 hb | exact nT4 hb | rfl) (by first | decide | assumption) (by omega) (by omega) (fun r55 s55 => ?_)
              try simp only [uz_oo (show b + 1 ≠ b + 4 by omega), uz_oo (show b + 2 ≠ b + 4 by omega)] at r55 s55 ⊢
              refine Z_ialdS1 (n := 57) dX0_goInto_56 rfl (by omega) (by omega) (fun r56 s56 => ?_)
              try simp only [uz_oo (show b + 1 ≠ b + 4 by omega), uz_oo (show b + 2 ≠ b + 4 by omega)] at r56 s56 ⊢
              refine Z_icmp_ge (n := 60) (t := 81) dX0_goInto_57 rfl (by decide) (fun c57 => ?_) (fun c57 => ?_)
              · refine Z_vret dX0_goInto_81 rfl ?_
                refine ⟨i45_0, fun h => ?_⟩
                obtain ⟨p1, p2⟩ := i45_3 h
                refine ⟨p1, ?_⟩
                have ei : i = opF (M (b + 1) g) := by
                  rw [hk] at c57
                  omega
                rw [p2, ei, show (40 - e).toNat = (40 - (e + 1)).toNat + 1 by omega]
                exact (if_pos ((rs_in (n := 40) h0 (by omega)).trans c12)).symm
              · refine Z_aload_n (n := 61) dX0_goInto_60 rfl rfl ?_
                refine Z_aload_n (n := 62) dX0_goInto_61 rfl rfl ?_
                refine Z_iload_n (n := 63) dX0_goInto_62 rfl rfl ?_
                refine Z_iload (n := 65) dX0_goInto_63 rfl rfl ?_
                refine Z_callVi (n := 68) [_, _] _ dX0_goInto_65 rfl cwX0_42 rfl rfl (by first | exact nS0 hb | exact nS1 hb | exact nS2 hb | exact nS3 hb | exact nS4 hb | exact nP0 hb | exact nP1 hb | exact nP2 hb | exact nP3 hb | rfl) (Nat.le_of_ble_eq_true rfl) ⟨by show 0 + 1 ≤ ((k + 1) + 2); omega, by show 8 + (3 + 11) + 40 * 0 ≤ 40 * ((k + 1) + 2); omega, Nat.le_refl _, Nat.le_refl _⟩ (fun _ _ => trivial) (zX0_operand  (by first | assumption | omega | decide) (by first | assumption | omega | decide) (by first | assumption | omega | decide) (by first | assumption | omega | decide) (by first | assumption | omega | decide)) ?_
                intro x65 M65 J65 z65 f65 q65
                obtain ⟨e65_1, e65_2, h65⟩ := q65
                replace e65_1 := e65_1.symm; subst e65_1
                replace e65_2 := e65_2.symm; subst e65_2
                rw [congrFun (fr45 (b + 2) (by unfold kGo; omega)).1 _] at h65
                have hop := (hN.1 g h0 h1).1 i (by omega) (by rw [← hk]; omega)
                rw [← h65] at hop
                refine Z_aload_n (n := 69) dX0_goInto_68 rfl rfl ?_
                refine Z_iload_n (n := 70) dX0_goInto_69 rfl rfl ?_
                refine Z_iconst (n := 71) dX0_goInto_70 rfl (by decide) ?_
                refine Z_iadd (n := 72) dX0_goInto_71 rfl (by omega) ?_
                refine Z_callVv (n := 75) [_, _, _] _ dX0_goInto_72 rfl cwX0_58 rfl rfl (by first | exact nS0 hb | exact nS1 hb | exact nS2 hb | exact nS3 hb | exact nS4 hb | exact nP0 hb | exact nP1 hb | exact nP2 hb | exact nP3 hb | rfl) (Nat.le_of_ble_eq_true rfl) ⟨by show (k + 2) + 1 ≤ ((k + 1) + 2); omega, by show 8 + (5 + 11) + 40 * (k + 2) ≤ 40 * ((k + 1) + 2); omega, Nat.le_refl _, Nat.le_refl _⟩ (fun _ h => h) (@ih _ _ _ _  (by first | assumption | omega | decide) (by first | assumption | omega | decide) (by first | assumption | omega | decide) (by first | assumption | omega | decide) (by first | assumption | omega | decide)) ?_
                intro M72 J72 f72 q72
                obtain ⟨e72_1, h72⟩ := q72
                replace e72_1 := e72_1.symm; subst e72_1
                have hop3 := opF_in (M (b + 1) g)
                have hi : i < opF (M (b + 1) g) := by rw [← hk]; omega
                have nx3 : oMet M → oMet M72 ∧ sc b M72 = vr (vs (M (b + 1)) (fun g c => M (b + 2) (3 * g + c)) (40 - (e + 1)).toNat) ((fun g c => M (b + 2) (3 * g + c)) g) (i + 1).toNat 0 (ent (M (b + 1)) (fun g c => M (b + 2) (3 * g + c)) g (sc b M)) := fun h => by
                  obtain ⟨p1, p2⟩ := i45_3 h
                  obtain ⟨q1, q2⟩ := h72 p1
                  refine ⟨q1, ?_⟩
                  rw [(fr45 (b + 1) (by unfold kGo; omega)).1, (fr45 (b + 2) (by unfold kGo; omega)).1] at q2
                  rw [q2, p2, show (i + 1).toNat = i.toNat + 1 by omega, vr_sn, h65, show (0 : Int) + (i.toNat : Int) = i by omega]
                refine Z_iinc (L' := [_, _, _, _, _]) (n := 78) dX0_goInto_75 rfl rfl (by decide) rfl rfl (by omega) rfl ?_
                refine Z_goto (t := 45) dX0_goInto_78 (by decide) ?_
                refine Z_loc (L' := [some _, some _, some _, some _, some _]) (lsub_same (lsub_same (lsub_same (lsub_same (lsub_same lsub_nil))))) ?_
                exact ih45 _ _ _ (by omega) (by assumption) (by first | assumption | omega | decide) (by omega) (by exact nx3)
          refine Z_loc (L' := [some _, some _, some _, some _, some _]) (lsub_same (lsub_same (lsub_same (lsub_same (lsub_same lsub_nil))))) ?_
          exact lp45 _ _ _ _ (Nat.lt_succ_self _) (by rfl) (by first | assumption | omega | decide) (by exact (opF_in _).1) (by exact en3)
        · refine Z_aload_n (n := 33) dX0_goInto_32 rfl rfl ?_
          refine Z_aload_n (n := 34) dX0_goInto_33 rfl rfl ?_
          refine Z_iload_n (n := 35) dX0_goInto_34 rfl rfl ?_
          refine Z_iconst (n := 36) dX0_goInto_35 rfl (by decide) ?_
          have ho0 := (hN.1 g h0 h1).2 (by omega)
          refine Z_callVi (n := 39) [_, _] _ dX0_goInto_36 rfl cwX0_42 rfl rfl (by first | exact nS0 hb | exact nS1 hb | exact nS2 hb | exact nS3 hb | exact nS4 hb | exact nP0 hb | exact nP1 hb | exact nP2 hb | exact nP3 hb | rfl) (Nat.le_of_ble_eq_true rfl) ⟨by show 0 + 1 ≤ ((k + 1) + 2); omega, by show 8 + (3 + 11) + 40 * 0 ≤ 40 * ((k + 1) + 2); omega, Nat.le_refl _, Nat.le_refl _⟩ (fun _ _ => trivial) (zX0_operand  (by first | assumption | omega | decide) (by omega) (by omega) (by omega) (by omega)) ?_
          intro x36 M36 J36 z36 f36 q36
          obtain ⟨e36_1, e36_2, h36⟩ := q36
          replace e36_1 := e36_1.symm; subst e36_1
          replace e36_2 := e36_2.symm; subst e36_2
          rw [uz_oo (show b + 2 ≠ b + 4 by omega), show 3 * g + 0 = 3 * g by omega] at h36
          have ho0 := (hN.1 g h0 h1).2 (by omega)
          refine Z_ok (fun ok39 => ?_)
          refine Z_callVv (n := 42) [_] _ dX0_goInto_39 rfl cwX0_62 rfl rfl (by first | exact nS0 hb | exact nS1 hb | exact nS2 hb | exact nS3 hb | exact nS4 hb | exact nP0 hb | exact nP1 hb | exact nP2 hb | exact nP3 hb | rfl) (Nat.le_of_ble_eq_true rfl) ⟨by show 1 + 1 ≤ ((k + 1) + 2); omega, by show 8 + (2 + 11) + 40 * 1 ≤ 40 * ((k + 1) + 2); omega, Nat.le_refl _, Nat.le_refl _⟩ (fun _ h => h) (zX1_meet  (by omega) (by omega) (by unfold kGo; omega) (by unfold kGo; omega) (by unfold kGo; omega)) ?_
          intro M39 J39 f39 q39
          obtain ⟨e39_1, h39⟩ := q39
          replace e39_1 := e39_1.symm; subst e39_1
          have e36 : x36 = M (b + 2) (3 * g + 0) := by rw [h36, show 3 * g + 0 = 3 * g by omega]
          have en3 : oMet M → oMet M39 ∧ sc b M39 = (ent (M (b + 1)) (fun g c => M (b + 2) (3 * g + c)) g (sc b M)) := fun h => by
            have h8 : oMet (uz M (b + 4) g 1) := oMet_fr h (uz_o (by omega)) (uz_o (by omega))
            obtain ⟨p1, p2⟩ := sc_meet (b := b) hb4z (by omega) (by omega) h8 ok39 h39
            refine ⟨p1, ?_⟩
            rw [p2, sc_see hb4z h0 (by omega), e36]
            exact (if_pos c29).symm
          refine Z_iconst (n := 43) dX0_goInto_42 rfl (by decide) ?_
          refine Z_istore (L' := [_, _, _, _, _]) (n := 45) dX0_goInto_43 rfl (by decide) rfl rfl ?_
          have lp45 : ∀ (N45 : Nat) (i : Int) (M45 : zM) (J45 : zJ), ((3 - i).toNat) < N45 → (J45 = J) → (0 ≤ i) → (i ≤ opF (M (b + 1) g)) → (oMet M → oMet M45 ∧ sc b M45 = vr (vs (M (b + 1)) (fun g c => M (b + 2) (3 * g + c)) (40 - (e + 1)).toNat) ((fun g c => M (b + 2) (3 * g + c)) g) i.toNat 0 (ent (M (b + 1)) (fun g c => M (b + 2) (3 * g + c)) g (sc b M))) → TZ G mX0_goInto (tl_rm ((k + 1) + 2) 0 0) 0 0 (kGo b) M J 45 [some (vR b), some (vI g), some (vR 2), some (vI e), some (vI i)] [] F1 M45 J45 (ZM G (zPost G (kGo b) F1 M J (qV (fun M' J' => J' = J ∧ (oMet M → oMet M' ∧ sc b M' = vs (M (b + 1)) (fun g c => M (b + 2) (3 * g + c)) (40 - e).toNat g (sc b M))))) 0 0) := by
            intro N45
            induction N45 with
            | zero => intro i M45 J45 hN; omega
            | succ N45 ih45 =>
              intro i M45 J45 hN45 i45_0 i45_1 i45_2 i45_3
              refine Z_iload (n := 47) dX0_goInto_45 rfl rfl ?_
              refine Z_fr (fun fr45 => ?_)
              have hk : M45 (b + 1) g = M (b + 1) g := congrFun (fr45 (b + 1) (by unfold kGo; omega)).1 g
              have hN45 : netOK M45 b := netOK_fr hN (fr45 b (by unfold kGo; omega)).1 (fr45 (b + 1) (by unfold kGo; omega)).1 (fr45 (b + 2) (by unfold kGo; omega)).1 (fr45 (b + 3) (by unfold kGo; omega)).1
              have hb4 : M45 b 4 = M b 4 := congrFun (fr45 b (by unfold kGo; omega)).1 4
              refine Z_getsN (i := 1) (n := 50) dX0_goInto_47 rfl (by decide) (by decide) rfl rfl ?_
              refine Z_aload_n (n := 51) dX0_goInto_50 rfl rfl ?_
              refine Z_getA (n := 54) dX0_goInto_51 rfl ffX0_9 (by first | exact nS0 hb | exact nS1 hb | exact nS2 hb | exact nS3 hb | exact nS4 hb | exact nP0 hb | exact nP1 hb | exact nP2 hb | exact nP3 hb | rfl) (by first | exact nS0 hb | exact nS1 hb | exact nS2 hb | exact nS3 hb | exact nS4 hb | exact nP0 hb | exact nP1 hb | exact nP2 hb | exact nP3 hb | rfl) ?_
              refine Z_iload_n (n := 55) dX0_goInto_54 rfl rfl ?_
              refine Z_iald (n := 56) dX0_goInto_55 rfl (by first | exact nS0 hb | exact nS1 hb | exact nS2 hb | exact nS3 hb | exact nS4 hb | exact nP0 hb | exact nP1 hb | exact nP2 hb | exact nP3 hb | rfl) (by first | exact nTg hb | exact nTo hb | exact nT1 hb | exact nT2 hb | exact nT3 hb | exact nT4 hb | rfl) (by first | decide | assumption) (by omega) (by omega) (fun r55 s55 => ?_)
              try simp only [uz_oo (show b + 1 ≠ b + 4 by omega), uz_oo (show b + 2 ≠ b + 4 by omega)] at r55 s55 ⊢
              refine Z_ialdS1 (n := 57) dX0_goInto_56 rfl (by omega) (by omega) (fun r56 s56 => ?_)
              try simp only [uz_oo (show b + 1 ≠ b + 4 by omega), uz_oo (show b + 2 ≠ b + 4 by omega)] at r56 s56 ⊢
              refine Z_icmp_ge (n := 60) (t := 81) dX0_goInto_57 rfl (by decide) (fun c57 => ?_) (fun c57 => ?_)
              · refine Z_vret dX0_goInto_81 rfl ?_
                refine ⟨i45_0, fun h => ?_⟩
                obtain ⟨p1, p2⟩ := i45_3 h
                refine ⟨p1, ?_⟩
                have ei : i = opF (M (b + 1) g) := by
                  rw [hk] at c57
                  omega
                rw [p2, ei, show (40 - e).toNat = (40 - (e + 1)).toNat + 1 by omega]
                exact (if_pos ((rs_in (n := 40) h0 (by omega)).trans c12)).symm
              · refine Z_aload_n (n := 61) dX0_goInto_60 rfl rfl ?_
                refine Z_aload_n (n := 62) dX0_goInto_61 rfl rfl ?_
                refine Z_iload_n (n := 63) dX0_goInto_62 rfl rfl ?_
                refine Z_iload (n := 65) dX0_goInto_63 rfl rfl ?_
                refine Z_callVi (n := 68) [_, _] _ dX0_goInto_65 rfl cwX0_42 rfl rfl (by first | exact nS0 hb | exact nS1 hb | exact nS2 hb | exact nS3 hb | exact nS4 hb | exact nP0 hb | exact nP1 hb | exact nP2 hb | exact nP3 hb | rfl) (Nat.le_of_ble_eq_true rfl) ⟨by show 0 + 1 ≤ ((k + 1) + 2); omega, by show 8 + (3 + 11) + 40 * 0 ≤ 40 * ((k + 1) + 2); omega, Nat.le_refl _, Nat.le_refl _⟩ (fun _ _ => trivial) (zX0_operand  (by first | assumption | omega | decide) (by first | assumption | omega | decide) (by first | assumption | omega | decide) (by first | assumption | omega | decide) (by first | assumption | omega | decide)) ?_
                intro x65 M65 J65 z65 f65 q65
                obtain ⟨e65_1, e65_2, h65⟩ := q65
                replace e65_1 := e65_1.symm; subst e65_1
                replace e65_2 := e65_2.symm; subst e65_2
                rw [congrFun (fr45 (b + 2) (by unfold kGo; omega)).1 _] at h65
                have hop := (hN.1 g h0 h1).1 i (by omega) (by rw [← hk]; omega)
                rw [← h65] at hop
                refine Z_aload_n (n := 69) dX0_goInto_68 rfl rfl ?_
                refine Z_iload_n (n := 70) dX0_goInto_69 rfl rfl ?_
                refine Z_iconst (n := 71) dX0_goInto_70 rfl (by decide) ?_
                refine Z_iadd (n := 72) dX0_goInto_71 rfl (by omega) ?_
                refine Z_callVv (n := 75) [_, _, _] _ dX0_goInto_72 rfl cwX0_58 rfl rfl (by first | exact nS0 hb | exact nS1 hb | exact nS2 hb | exact nS3 hb | exact nS4 hb | exact nP0 hb | exact nP1 hb | exact nP2 hb | exact nP3 hb | rfl) (Nat.le_of_ble_eq_true rfl) ⟨by show (k + 2) + 1 ≤ ((k + 1) + 2); omega, by show 8 + (5 + 11) + 40 * (k + 2) ≤ 40 * ((k + 1) + 2); omega, Nat.le_refl _, Nat.le_refl _⟩ (fun _ h => h) (@ih _ _ _ _  (by first | assumption | omega | decide) (by first | assumption | omega | decide) (by first | assumption | omega | decide) (by first | assumption | omega | decide) (by first | assumption | omega | decide)) ?_
                intro M72 J72 f72 q72
                obtain ⟨e72_1, h72⟩ := q72
                replace e72_1 := e72_1.symm; subst e72_1
                have hop3 := opF_in (M (b + 1) g)
                have hi : i < opF (M (b + 1) g) := by rw [← hk]; omega
                have nx3 : oMet M → oMet M72 ∧ sc b M72 = vr (vs (M (b + 1)) (fun g c => M (b + 2) (3 * g + c)) (40 - (e + 1)).toNat) ((fun g c => M (b + 2) (3 * g + c)) g) (i + 1).toNat 0 (ent (M (b + 1)) (fun g c => M (b + 2) (3 * g + c)) g (sc b M)) := fun h => by
                  obtain ⟨p1, p2⟩ := i45_3 h
                  obtain ⟨q1, q2⟩ := h72 p1
                  refine ⟨q1, ?_⟩
                  rw [(fr45 (b + 1) (by unfold kGo; omega)).1, (fr45 (b + 2) (by unfold kGo; omega)).1] at q2
                  rw [q2, p2, show (i + 1).toNat = i.toNat + 1 by omega, vr_sn, h65, show (0 : Int) + (i.toNat : Int) = i by omega]
                refine Z_iinc (L' := [_, _, _, _, _]) (n := 78) dX0_goInto_75 rfl rfl (by decide) rfl rfl (by omega) rfl ?_
                refine Z_goto (t := 45) dX0_goInto_78 (by decide) ?_
                refine Z_loc (L' := [some _, some _, some _, some _, some _]) (lsub_same (lsub_same (lsub_same (lsub_same (lsub_same lsub_nil))))) ?_
                exact ih45 _ _ _ (by omega) (by assumption) (by first | assumption | omega | decide) (by omega) (by exact nx3)
          refine Z_loc (L' := [some _, some _, some _, some _, some _]) (lsub_same (lsub_same (lsub_same (lsub_same (lsub_same lsub_nil))))) ?_
          exact lp45 _ _ _ _ (Nat.lt_succ_self _) (by rfl) (by first | assumption | omega | decide) (by exact (opF_in _).1) (by exact en3)
      · 
        refine Z_vret dX0_goInto_15 rfl ?_
        first
          | (exfalso; omega)
          | exact ⟨rfl, fun h => ⟨h, by rw [show (40 - e).toNat = 0 by omega]; rfl⟩⟩
          | exact ⟨rfl, fun h => ⟨h, by rw [show (40 - e).toNat = (40 - (e + 1)).toNat + 1 by omega]; exact (if_neg (fun t => c12 ((rs_in (n := 40) h0 (by omega)).symm.trans t))).symm⟩⟩
set_option maxRecDepth 20000 in
theorem zX0_meetVariables_f {G : tl_G} {M : zM} {J : zJ} {b : Nat}  (hb : NetAt b) (hN : netOK M b) : ZN G yX0_meetVariables mX0_meetVariables 43 (kGo b) [vR b, vR 2] F1 M J (qV (fun M' J' => J' = J ∧ (oMet M → oMet M' ∧ sc b M' = vr (vs (M (b + 1)) (fun g c => M (b + 2) (3 * g + c)) 40) (M (b + 3)) (M b 5).toNat 0 (rs 40 (fun _ => 0), (sc b M).2)))) := by
  refine ZN_of (L := [_, _, _]) (by decide) rfl rfl (Nat.le_of_ble_eq_true rfl) rfl (fun hav => ?_)
  refine Z_rg b 5 (nTo hb) (fun g5 g5b => ?_)
  refine Z_rg b 4 (nTg hb) (fun g4 g4b => ?_)
  have hb4z : 4 < b := by rcases hb with q | q | q <;> omega
  refine Z_aload_n (n := 1) dX0_meetVariables_0 rfl rfl ?_
  refine Z_getA (n := 4) dX0_meetVariables_1 rfl ffX0_21 (by first | exact nS0 hb | exact nS1 hb | exact nS2 hb | exact nS3 hb | exact nS4 hb | exact nP0 hb | exact nP1 hb | exact nP2 hb | exact nP3 hb | rfl) (by first | exact nS0 hb | exact nS1 hb | exact nS2 hb | exact nS3 hb | exact nS4 hb | exact nP0 hb | exact nP1 hb | exact nP2 hb | exact nP3 hb | rfl) ?_
  refine Z_iconst (n := 5) dX0_meetVariables_4 rfl (by decide) ?_
  refine Z_callSv (n := 8) [_, _] _ dX0_meetVariables_5 rfl cwX0_48 rfl rfl (Nat.le_of_ble_eq_true rfl) (by refine ⟨?_, ?_, ?_, ?_⟩ <;> exact Nat.le_of_ble_eq_true rfl) (fun _ h => h) (zJ7_fill_53178  (by exact nS4 hb) (by decide) (by exact fun _ => nT4 hb) (by decide) (by decide) (by unfold kGo; omega)) ?_
  intro M5 J5 f5 q5
  obtain ⟨e5_1, e5_2⟩ := q5
  replace e5_1 := e5_1.symm; subst e5_1
  replace e5_2 := e5_2.symm; subst e5_2
  have hm0 : oMet M → oMet (fillz M (b + 4) (40 : Nat) 0) ∧ sc b (fillz M (b + 4) (40 : Nat) 0) = (rs 40 (fun _ => 0), (sc b M).2) := fun h => ⟨oMet_fr h (fillz_o (by omega)) (fillz_o (by omega)), by
    unfold sc
    rw [fillz_o (show (4 : Nat) ≠ b + 4 by omega), fillz_o (show (3 : Nat) ≠ b + 4 by omega), fillz_o (show (2 : Nat) ≠ b + 4 by omega), rs_cg (f' := fillz M (b + 4) (40 : Nat) 0 (b + 4)) (f := fun _ => 0) (n := 40) (fun j a c => fillz_a a (by omega))]⟩
  refine Z_iconst (n := 9) dX0_meetVariables_8 rfl (by decide) ?_
  refine Z_istore_n (L' := [_, _, _]) (n := 10) dX0_meetVariables_9 rfl (by decide) rfl rfl ?_
  have lp10 : ∀ (N10 : Nat) (o : Int) (M10 : zM) (J10 : zJ), ((4 - o).toNat) < N10 → (J10 = J) → (0 ≤ o) → (o ≤ M b 5) → (oMet M → oMet M10 ∧ sc b M10 = vr (vs (M (b + 1)) (fun g c => M (b + 2) (3 * g + c)) 40) (M (b + 3)) o.toNat 0 (rs 40 (fun _ => 0), (sc b M).2)) → TZ G mX0_meetVariables (tl_rm 43 0 0) 0 0 (kGo b) M J 10 [some (vR b), some (vR 2), some (vI o)] [] F1 M10 J10 (ZM G (zPost G (kGo b) F1 M J (qV (fun M' J' => J' = J ∧ (oMet M → oMet M' ∧ sc b M' = vr (vs (M (b + 1)) (fun g c => M (b + 2) (3 * g + c)) 40) (M (b + 3)) (M b 5).toNat 0 (rs 40 (fun _ => 0), (sc b M).2))))) 0 0) := by
    intro N10
    induction N10 with
    | zero => intro o M10 J10 hN; omega
    | succ N10 ih10 =>
      intro o M10 J10 hN10 i10_0 i10_1 i10_2 i10_3
      refine Z_iload_n (n := 11) dX0_meetVariables_10 rfl rfl ?_
      refine Z_fr (fun fr10 => ?_)
      have hN10 : netOK M10 b := netOK_fr hN (fr10 b (by unfold kGo; omega)).1 (fr10 (b + 1) (by unfold kGo; omega)).1 (fr10 (b + 2) (by unfold kGo; omega)).1 (fr10 (b + 3) (by unfold kGo; omega)).1
      have hb5 : M10 b 5 = M b 5 := congrFun (fr10 b (by unfold kGo; omega)).1 5
      refine Z_aload_n (n := 12) dX0_meetVariables_11 rfl rfl ?_
      refine Z_getI (n := 15) (ki := 5) dX0_meetVariables_12 rfl ffX0_28 rfl (by first | exact nS0 hb | exact nS1 hb | exact nS2 hb | exact nS3 hb | exact nS4 hb | exact nP0 hb | exact nP1 hb | exact nP2 hb | exact nP3 hb | rfl) (by first | exact nTg hb | exact nTo hb | exact nT1 hb | exact nT2 hb | exact nT3 hb | exact nT4 hb | rfl) (fun r12 s12 => ?_)
      refine Z_icmp_ge (n := 18) (t := 36) dX0_meetVariables_15 rfl (by decide) (fun c15 => ?_) (fun c15 => ?_)
      · refine Z_vret dX0_meetVariables_36 rfl ?_
        refine ⟨i10_0, fun h => ?_⟩
        rw [show M b 5 = o by omega]
        exact i10_3 h
      · refine Z_aload_n (n := 19) dX0_meetVariables_18 rfl rfl ?_
        refine Z_aload_n (n := 20) dX0_meetVariables_19 rfl rfl ?_
        refine Z_getA (n := 23) dX0_meetVariables_20 rfl ffX0_18 (by first | exact nS0 hb | exact nS1 hb | exact nS2 hb | exact nS3 hb | exact nS4 hb | exact nP0 hb | exact nP1 hb | exact nP2 hb | exact nP3 hb | rfl) (by first | exact nS0 hb | exact nS1 hb | exact nS2 hb | exact nS3 hb | exact nS4 hb | exact nP0 hb | exact nP1 hb | exact nP2 hb | exact nP3 hb | rfl) ?_
        refine Z_iload_n (n := 24) dX0_meetVariables_23 rfl rfl ?_
        refine Z_iald (n := 25) dX0_meetVariables_24 rfl (by first | exact nS0 hb | exact nS1 hb | exact nS2 hb | exact nS3 hb | exact nS4 hb | exact nP0 hb | exact nP1 hb | exact nP2 hb | exact nP3 hb | rfl) (by first | exact nTg hb | exact nTo hb | exact nT1 hb | exact nT2 hb | exact nT3 hb | exact nT4 hb | rfl) (by first | decide | assumption) (by omega) (by omega) (fun r24 s24 => ?_)
        have ho := hN10.2 o (by omega) (by omega)
        refine Z_aload_n (n := 26) dX0_meetVariables_25 rfl rfl ?_
        refine Z_iconst (n := 27) dX0_meetVariables_26 rfl (by decide) ?_
        refine Z_callVv (n := 30) [_, _, _] _ dX0_meetVariables_27 rfl cwX0_58 rfl rfl (by first | exact nS0 hb | exact nS1 hb | exact nS2 hb | exact nS3 hb | exact nS4 hb | exact nP0 hb | exact nP1 hb | exact nP2 hb | exact nP3 hb | rfl) (Nat.le_of_ble_eq_true rfl) (by refine ⟨?_, ?_, ?_, ?_⟩ <;> exact Nat.le_of_ble_eq_true rfl) (fun _ h => h) (zX0_goInto_f 40  (by first | assumption | omega | decide) (by first | assumption | omega | decide) (by omega) (by omega) (by omega) (by omega)) ?_
        intro M27 J27 f27 q27
        obtain ⟨e27_1, h27⟩ := q27
        replace e27_1 := e27_1.symm; subst e27_1
        have nx3 : oMet M → oMet M27 ∧ sc b M27 = vr (vs (M (b + 1)) (fun g c => M (b + 2) (3 * g + c)) 40) (M (b + 3)) (o + 1).toNat 0 (rs 40 (fun _ => 0), (sc b M).2) := fun h => by
          obtain ⟨p1, p2⟩ := i10_3 h
          obtain ⟨q1, q2⟩ := h27 p1
          refine ⟨q1, ?_⟩
          rw [(fr10 (b + 1) (by unfold kGo; omega)).1, (fr10 (b + 2) (by unfold kGo; omega)).1, (fr10 (b + 3) (by unfold kGo; omega)).1, show ((40 : Int) - 0).toNat = 40 by decide] at q2
          rw [q2, p2, show (o + 1).toNat = o.toNat + 1 by omega, vr_sn, show (0 : Int) + (o.toNat : Int) = o by omega]
        refine Z_iinc (L' := [_, _, _]) (n := 33) dX0_meetVariables_30 rfl rfl (by decide) rfl rfl (by omega) rfl ?_
        refine Z_goto (t := 10) dX0_meetVariables_33 (by decide) ?_
        refine Z_loc (L' := [some _, some _, some _]) (lsub_same (lsub_same (lsub_same lsub_nil))) ?_
        exact ih10 _ _ _ (by omega) (by assumption) (by first | assumption | omega | decide) (by omega) (by exact nx3)
  refine Z_loc (L' := [some _, some _, some _]) (lsub_same (lsub_same (lsub_same lsub_nil))) ?_
  exact lp10 _ _ _ _ (Nat.lt_succ_self _) (by rfl) (by first | assumption | omega | decide) (by omega) (by exact hm0)
set_option maxRecDepth 20000 in
theorem zX1_meetOthers_f {G : tl_G} {M : zM} {J : zJ} {b : Nat} (hb : 4 < b) : ZN G yX1_meetOthers mX1_meetOthers 2 kOrd [vR 2] F1 M J (qI (fun x M' J' => x = M 2 2 ∧ J' = J ∧ (oMet M → oMet M' ∧ (∀ v : Int, 0 ≤ v → v < 8 → 0 ≤ M' 4 v) ∧ sc b M' = oF (sc b M)))) := by
  refine ZN_of (L := [_, _, _]) (by decide) rfl rfl (Nat.le_of_ble_eq_true rfl) rfl (fun hav => ?_)
  refine Z_aload_n (n := 1) dX1_meetOthers_0 rfl rfl ?_
  refine Z_getI (n := 4) (ki := 2) dX1_meetOthers_1 rfl ffX1_18 rfl rfl rfl (fun r1 s1 => ?_)
  refine Z_istore_n (L' := [_, _, _]) (n := 5) dX1_meetOthers_4 rfl (by decide) rfl rfl ?_
  refine Z_iconst (n := 6) dX1_meetOthers_5 rfl (by decide) ?_
  refine Z_istore_n (L' := [_, _, _]) (n := 7) dX1_meetOthers_6 rfl (by decide) rfl rfl ?_
  have lp7 : ∀ (N7 : Nat) (v : Int) (M7 : zM) (J7 : zJ), ((8 - v).toNat) < N7 → (J7 = J) → (0 ≤ v) → (v ≤ 8) → (oMet M → oMet M7 ∧ ∀ w : Int, 0 ≤ w → w < v → ¬ M7 4 w = -1) → (oMet M → sc b M7 = vr mt (fun c => c) v.toNat 0 (sc b M)) → TZ G mX1_meetOthers (tl_rm 2 0 0) 0 0 kOrd M J 7 [some (vR 2), some (vI (M 2 2)), some (vI v)] [] F1 M7 J7 (ZM G (zPost G kOrd F1 M J (qI (fun x M' J' => x = M 2 2 ∧ J' = J ∧ (oMet M → oMet M' ∧ (∀ v : Int, 0 ≤ v → v < 8 → 0 ≤ M' 4 v) ∧ sc b M' = oF (sc b M))))) 0 0) := by
    intro N7
    induction N7 with
    | zero => intro v M7 J7 hN; omega
    | succ N7 ih7 =>
      intro v M7 J7 hN7 i7_0 i7_1 i7_2 i7_3 i7_4
      refine Z_iload_n (n := 8) dX1_meetOthers_7 rfl rfl ?_
      refine Z_bipush (n := 10) dX1_meetOthers_8 rfl (by decide) (by decide) ?_
      refine Z_icmp_ge (n := 13) (t := 24) dX1_meetOthers_10 rfl (by decide) (fun c10 => ?_) (fun c10 => ?_)
      · refine Z_ok (fun ok7 => ?_)
        refine Z_iload_n (n := 25) dX1_meetOthers_24 rfl rfl ?_
        refine Z_iret dX1_meetOthers_25 rfl ?_
        refine ⟨rfl, i7_0, fun h => ⟨(i7_3 h).1, fun w h0 h1 => ?_, ?_⟩⟩
        · have e := (i7_3 h).2 w h0 (by omega)
          have := (ok7 4 w).1
          have e2 : (zT 4 w).1 = -1 := rfl
          omega
        · have z := i7_4 h
          rw [show v = 8 by omega] at z
          exact z
      · refine Z_ok (fun ok7 => ?_)
        refine Z_rg 2 2 rfl (fun g7 g7b => ?_)
        refine Z_aload_n (n := 14) dX1_meetOthers_13 rfl rfl ?_
        refine Z_iload_n (n := 15) dX1_meetOthers_14 rfl rfl ?_
        refine Z_callVv (n := 18) [_] _ dX1_meetOthers_15 rfl cwX1_32 rfl rfl rfl (Nat.le_of_ble_eq_true rfl) (by refine ⟨?_, ?_, ?_, ?_⟩ <;> exact Nat.le_of_ble_eq_true rfl) (fun _ h => h) (zX1_meet  (by first | assumption | omega | decide) (by first | assumption | omega | decide) (by first | assumption | omega | decide) (by first | assumption | omega | decide) (by first | assumption | omega | decide)) ?_
        intro M15 J15 f15 q15
        obtain ⟨e15_1, h15⟩ := q15
        replace e15_1 := e15_1.symm; subst e15_1
        have nx4 : oMet M → sc b M15 = vr mt (fun c => c) (v + 1).toNat 0 (sc b M) := fun h => by
          rw [(sc_meet hb (by omega) (by omega) (i7_3 h).1 ok7 h15).2, i7_4 h, show (v + 1).toNat = v.toNat + 1 by omega, vr_sn, show (0 : Int) + (v.toNat : Int) = v by omega]
        have nxt : oMet M → oMet M15 ∧ ∀ w : Int, 0 ≤ w → w < v + 1 → ¬ M15 4 w = -1 := by
          intro h
          obtain ⟨h1, h2⟩ := i7_3 h
          rcases h15 with ⟨e1, e2, rfl⟩ | ⟨e1, rfl⟩
          · refine ⟨oMet_meet (by omega) (by omega) h1 ok7 e1, fun w h3 h4 => ?_⟩
            rw [uz_oo (show (4 : Nat) ≠ 2 by decide)]
            by_cases e : w = v
            · subst e; rw [uz_s]; omega
            · rw [uz_n e, uz_oo (show (4 : Nat) ≠ 3 by decide)]; exact h2 w h3 (by omega)
          · refine ⟨h1, fun w h3 h4 => ?_⟩
            by_cases e : w = v
            · subst e
              intro e3
              have := hc_lt (f := M15 4) (n := 8) h3 (by omega) e3
              unfold oMet at h1
              omega
            · exact h2 w h3 (by omega)
        refine Z_iinc (L' := [_, _, _]) (n := 21) dX1_meetOthers_18 rfl rfl (by decide) rfl rfl (by omega) rfl ?_
        refine Z_goto (t := 7) dX1_meetOthers_21 (by decide) ?_
        refine Z_loc (L' := [some _, some _, some _]) (lsub_same (lsub_same (lsub_same lsub_nil))) ?_
        exact ih7 _ _ _ (by omega) (by assumption) (by first | assumption | omega | decide) (by first | assumption | omega | decide) (by exact nxt) (by exact nx4)
  refine Z_loc (L' := [some _, some _, some _]) (lsub_same (lsub_same (lsub_same lsub_nil))) ?_
  exact lp7 _ _ _ _ (Nat.lt_succ_self _) (by rfl) (by first | assumption | omega | decide) (by first | assumption | omega | decide) (by exact fun h => ⟨h, fun w h0 h1 => by omega⟩) (by exact fun h => rfl)
set_option maxRecDepth 20000 in
theorem zX1_moveTo_f {G : tl_G} {M : zM} {J : zJ} {v p : Int} (h0 : 0 ≤ v) (h1 : v < 8) (h2 : 0 ≤ p) (h3 : p < 8) (h4 : 0 ≤ M 4 v) (hI : oIn (M 3) (M 4)) : ZN G yX1_moveTo mX1_moveTo 1 kOrd [vR 2, vI v, vI p] F1 M J (qI (fun x M' J' => x = M 4 v ∧ J' = J ∧ mvQ (M 3) (M 4) (M' 3) (M' 4) v p)) := by
  refine ZN_of (L := [_, _, _, _, _]) (by decide) rfl rfl (Nat.le_of_ble_eq_true rfl) rfl (fun hav => ?_)
  have f8 : M 4 v < 8 := (hI v h0 h1).1.2.1
  refine Z_aload_n (n := 1) dX1_moveTo_0 rfl rfl ?_
  refine Z_getA (n := 4) dX1_moveTo_1 rfl ffX1_15 rfl rfl ?_
  refine Z_iload_n (n := 5) dX1_moveTo_4 rfl rfl ?_
  refine Z_iald (n := 6) dX1_moveTo_5 rfl rfl rfl (by first | decide | assumption) (by omega) (by omega) (fun r5 s5 => ?_)
  refine Z_istore_n (L' := [_, _, _, _, _]) (n := 7) dX1_moveTo_6 rfl (by decide) rfl rfl ?_
  refine Z_iload_n (n := 8) dX1_moveTo_7 rfl rfl ?_
  refine Z_istore (L' := [_, _, _, _, _]) (n := 10) dX1_moveTo_8 rfl (by decide) rfl rfl ?_
  have lp10 : ∀ (N10 : Nat) (q : Int) (M10 : zM) (J10 : zJ), ((p - q).toNat) < N10 → (J10 = J) → (0 ≤ q) → (q ≤ 7) → (M 4 v ≤ q) → (q ≤ p ∨ q = M 4 v) → (∀ j : Int, 0 ≤ j → j < 8 → M10 3 j = mvA (M 3) (M 4 v) q (M 4 v) j) → (∀ j : Int, 0 ≤ j → j < 8 → M10 4 j = mvP (M 4) (M 4 v) q (M 4 v) j) → TZ G mX1_moveTo (tl_rm 1 0 0) 0 0 kOrd M J 10 [some (vR 2), some (vI v), some (vI p), some (vI (M 4 v)), some (vI q)] [] F1 M10 J10 (ZM G (zPost G kOrd F1 M J (qI (fun x M' J' => x = M 4 v ∧ J' = J ∧ mvQ (M 3) (M 4) (M' 3) (M' 4) v p))) 0 0) := by
    intro N10
    induction N10 with
    | zero => intro q M10 J10 hN; omega
    | succ N10 ih10 =>
      intro q M10 J10 hN10 i10_0 i10_1 i10_2 i10_3 i10_4 i10_5 i10_6
      refine Z_iload (n := 12) dX1_moveTo_10 rfl rfl ?_
      refine Z_iload_n (n := 13) dX1_moveTo_12 rfl rfl ?_
      refine Z_icmp_ge (n := 16) (t := 37) dX1_moveTo_13 rfl (by decide) (fun c13 => ?_) (fun c13 => ?_)
      · refine Z_iload_n (n := 38) dX1_moveTo_37 rfl rfl ?_
        refine Z_istore (L' := [_, _, _, _, _]) (n := 40) dX1_moveTo_38 rfl (by decide) rfl rfl ?_
        have lp40 : ∀ (N40 : Nat) (q : Int) (M40 : zM) (J40 : zJ), ((q - p).toNat) < N40 → (J40 = J) → (0 ≤ q) → (q ≤ 7) → (q ≤ M 4 v) → (p ≤ q ∨ q = M 4 v) → (∀ j : Int, 0 ≤ j → j < 8 → M40 3 j = mvA (M 3) (M 4 v) p q j) → (∀ j : Int, 0 ≤ j → j < 8 → M40 4 j = mvP (M 4) (M 4 v) p q j) → TZ G mX1_moveTo (tl_rm 1 0 0) 0 0 kOrd M J 40 [some (vR 2), some (vI v), some (vI p), some (vI (M 4 v)), some (vI q)] [] F1 M40 J40 (ZM G (zPost G kOrd F1 M J (qI (fun x M' J' => x = M 4 v ∧ J' = J ∧ mvQ (M 3) (M 4) (M' 3) (M' 4) v p))) 0 0) := by
          intro N40
          induction N40 with
          | zero => intro q M40 J40 hN; omega
          | succ N40 ih40 =>
            intro q M40 J40 hN40 i40_0 i40_1 i40_2 i40_3 i40_4 i40_5 i40_6
            refine Z_iload (n := 42) dX1_moveTo_40 rfl rfl ?_
            refine Z_iload_n (n := 43) dX1_moveTo_42 rfl rfl ?_
            refine Z_icmp_le (n := 46) (t := 67) dX1_moveTo_43 rfl (by decide) (fun c43 => ?_) (fun c43 => ?_)
            · refine Z_aload_n (n := 68) dX1_moveTo_67 rfl rfl ?_
              refine Z_iload_n (n := 69) dX1_moveTo_68 rfl rfl ?_
              refine Z_iload_n (n := 70) dX1_moveTo_69 rfl rfl ?_
              refine Z_callVv (n := 73) [_, _] _ dX1_moveTo_70 rfl cwX1_28 rfl rfl rfl (Nat.le_of_ble_eq_true rfl) (by refine ⟨?_, ?_, ?_, ?_⟩ <;> exact Nat.le_of_ble_eq_true rfl) (fun _ h => h) (zX1_put  (by first | assumption | omega | decide) (by first | assumption | omega | decide) (by first | assumption | omega | decide) (by first | assumption | omega | decide) (by first | assumption | omega | decide) (by first | assumption | omega | decide)) ?_
              intro M70 J70 f70 q70
              obtain ⟨e70_1, e70_2⟩ := q70
              replace e70_1 := e70_1.symm; subst e70_1
              replace e70_2 := e70_2.symm; subst e70_2
              refine Z_iload_n (n := 74) dX1_moveTo_73 rfl rfl ?_
              refine Z_iret dX1_moveTo_74 rfl ?_
              refine ⟨rfl, i40_0, fun j a b => ?_, fun j a b => ?_⟩
              · rw [uz_o (show (3 : Nat) ≠ 4 by decide), uz_fn]
                by_cases e : j = p
                · rw [e, updI_s, updI_s]
                · rw [updI_n e, updI_n e, i40_5 j a b]
                  exact (mv_ey (P := M 4) (by omega) (by omega) (by omega)).1
              · rw [uz_fn, uz_o (show (4 : Nat) ≠ 3 by decide)]
                by_cases e : j = v
                · rw [e, updI_s, updI_s]
                · rw [updI_n e, updI_n e, i40_6 j a b]
                  exact (mv_ey (A := M 3) (by omega) (by omega) (by omega)).2
            · refine Z_aload_n (n := 47) dX1_moveTo_46 rfl rfl ?_
              refine Z_aload_n (n := 48) dX1_moveTo_47 rfl rfl ?_
              refine Z_getA (n := 51) dX1_moveTo_48 rfl ffX1_9 rfl rfl ?_
              refine Z_iload (n := 53) dX1_moveTo_51 rfl rfl ?_
              refine Z_iconst (n := 54) dX1_moveTo_53 rfl (by decide) ?_
              refine Z_isub (n := 55) dX1_moveTo_54 rfl (by omega) ?_
              refine Z_iald (n := 56) dX1_moveTo_55 rfl rfl rfl (by first | decide | assumption) (by omega) (by omega) (fun r55 s55 => ?_)
              refine Z_iload (n := 58) dX1_moveTo_56 rfl rfl ?_
              refine Z_callVv (n := 61) [_, _] _ dX1_moveTo_58 rfl cwX1_28 rfl rfl rfl (Nat.le_of_ble_eq_true rfl) (by refine ⟨?_, ?_, ?_, ?_⟩ <;> exact Nat.le_of_ble_eq_true rfl) (fun _ h => h) (zX1_put  (by first | assumption | omega | decide) (by first | assumption | omega | decide) (by first | assumption | omega | decide) (by first | assumption | omega | decide) (by first | assumption | omega | decide) (by first | assumption | omega | decide)) ?_
              intro M58 J58 f58 q58
              obtain ⟨e58_1, e58_2⟩ := q58
              replace e58_1 := e58_1.symm; subst e58_1
              replace e58_2 := e58_2.symm; subst e58_2
              obtain ⟨ea, eb⟩ := mvA_dn (q := q) i40_5 (by omega) (by omega) (by omega) (by omega)
              have nA5 : ∀ j : Int, 0 ≤ j → j < 8 → (uz (uz M40 3 q (M40 3 (q - 1))) 4 (M40 3 (q - 1)) q) 3 j = mvA (M 3) (M 4 v) p (q - 1) j := fun j a b => by
                rw [uz_o (show (3 : Nat) ≠ 4 by decide), uz_fn]
                exact eb j a b
              have nP6 : ∀ j : Int, 0 ≤ j → j < 8 → (uz (uz M40 3 q (M40 3 (q - 1))) 4 (M40 3 (q - 1)) q) 4 j = mvP (M 4) (M 4 v) p (q - 1) j := fun j a b => by
                rw [uz_fn, uz_o (show (4 : Nat) ≠ 3 by decide), ea]
                exact mvP_dn hI i40_6 (by omega) (by omega) (by omega) (by omega) j a b
              refine Z_iinc (L' := [_, _, _, _, _]) (n := 64) dX1_moveTo_61 rfl rfl (by decide) rfl rfl (by omega) rfl ?_
              refine Z_goto (t := 40) dX1_moveTo_64 (by decide) ?_
              refine Z_loc (L' := [some _, some _, some _, some _, some _]) (lsub_same (lsub_same (lsub_same (lsub_same (lsub_same lsub_nil))))) ?_
              exact ih40 _ _ _ (by omega) (by assumption) (by first | assumption | omega | decide) (by first | assumption | omega | decide) (by first | assumption | omega | decide) (by first | assumption | omega | decide) (by exact nA5) (by exact nP6)
        refine Z_loc (L' := [some _, some _, some _, some _, some _]) (lsub_same (lsub_same (lsub_same (lsub_same (lsub_same lsub_nil))))) ?_
        exact lp40 _ _ _ _ (Nat.lt_succ_self _) (by assumption) (by first | assumption | omega | decide) (by first | assumption | omega | decide) (by first | assumption | omega | decide) (by first | assumption | omega | decide) (by exact fun j a b => (i10_5 j a b).trans (mv_ex (P := M 4) (by omega) (by omega) (by omega)).1) (by exact fun j a b => (i10_6 j a b).trans (mv_ex (A := M 3) (by omega) (by omega) (by omega)).2)
      · refine Z_aload_n (n := 17) dX1_moveTo_16 rfl rfl ?_
        refine Z_aload_n (n := 18) dX1_moveTo_17 rfl rfl ?_
        refine Z_getA (n := 21) dX1_moveTo_18 rfl ffX1_9 rfl rfl ?_
        refine Z_iload (n := 23) dX1_moveTo_21 rfl rfl ?_
        refine Z_iconst (n := 24) dX1_moveTo_23 rfl (by decide) ?_
        refine Z_iadd (n := 25) dX1_moveTo_24 rfl (by omega) ?_
        refine Z_iald (n := 26) dX1_moveTo_25 rfl rfl rfl (by first | decide | assumption) (by omega) (by omega) (fun r25 s25 => ?_)
        refine Z_iload (n := 28) dX1_moveTo_26 rfl rfl ?_
        refine Z_callVv (n := 31) [_, _] _ dX1_moveTo_28 rfl cwX1_28 rfl rfl rfl (Nat.le_of_ble_eq_true rfl) (by refine ⟨?_, ?_, ?_, ?_⟩ <;> exact Nat.le_of_ble_eq_true rfl) (fun _ h => h) (zX1_put  (by first | assumption | omega | decide) (by first | assumption | omega | decide) (by first | assumption | omega | decide) (by first | assumption | omega | decide) (by first | assumption | omega | decide) (by first | assumption | omega | decide)) ?_
        intro M28 J28 f28 q28
        obtain ⟨e28_1, e28_2⟩ := q28
        replace e28_1 := e28_1.symm; subst e28_1
        replace e28_2 := e28_2.symm; subst e28_2
        obtain ⟨ea, eb⟩ := mvA_up (q := q) i10_5 (by omega) (by omega) (by omega)
        have nA5 : ∀ j : Int, 0 ≤ j → j < 8 → (uz (uz M10 3 q (M10 3 (q + 1))) 4 (M10 3 (q + 1)) q) 3 j = mvA (M 3) (M 4 v) (q + 1) (M 4 v) j := fun j a b => by
          rw [uz_o (show (3 : Nat) ≠ 4 by decide), uz_fn]
          exact eb j a b
        have nP6 : ∀ j : Int, 0 ≤ j → j < 8 → (uz (uz M10 3 q (M10 3 (q + 1))) 4 (M10 3 (q + 1)) q) 4 j = mvP (M 4) (M 4 v) (q + 1) (M 4 v) j := fun j a b => by
          rw [uz_fn, uz_o (show (4 : Nat) ≠ 3 by decide), ea]
          exact mvP_up hI i10_6 (by omega) (by omega) (by omega) j a b
        refine Z_iinc (L' := [_, _, _, _, _]) (n := 34) dX1_moveTo_31 rfl rfl (by decide) rfl rfl (by omega) rfl ?_
        refine Z_goto (t := 10) dX1_moveTo_34 (by decide) ?_
        refine Z_loc (L' := [some _, some _, some _, some _, some _]) (lsub_same (lsub_same (lsub_same (lsub_same (lsub_same lsub_nil))))) ?_
        exact ih10 _ _ _ (by omega) (by assumption) (by first | assumption | omega | decide) (by first | assumption | omega | decide) (by first | assumption | omega | decide) (by first | assumption | omega | decide) (by exact nA5) (by exact nP6)
  refine Z_loc (L' := [some _, some _, some _, some _, some _]) (lsub_same (lsub_same (lsub_same (lsub_same (lsub_same lsub_nil))))) ?_
  exact lp10 _ _ _ _ (Nat.lt_succ_self _) (by rfl) (by first | assumption | omega | decide) (by omega) (by first | assumption | omega | decide) (by first | assumption | omega | decide) (by exact fun j _ _ => (mv_0 (P := M 4)).1.symm) (by exact fun j _ _ => (mv_0 (A := M 3)).2.symm)
set_option maxRecDepth 20000 in
theorem zX3_move_f {G : tl_G} {M : zM} {J : zJ} {v p : Int} (hC : cI M) (hI : oIn (M 3) (M 4)) : ZN G yX3_move mX3_move 2 kOrd [vR 0, vI v, vI p] F1 M J (qI (fun x M' J' => J' = J ∧ cI M' ∧ (((v < 0 ∨ 8 ≤ v ∨ p < 0 ∨ 8 ≤ p) ∧ x = -2 ∧ M' = M) ∨ (¬ (v < 0 ∨ 8 ≤ v ∨ p < 0 ∨ 8 ≤ p) ∧ 0 < hc (M 12) 12 ∧ x = -3 ∧ M' = M) ∨ (¬ (v < 0 ∨ 8 ≤ v ∨ p < 0 ∨ 8 ≤ p) ∧ hc (M 12) 12 ≤ 0 ∧ x = M 4 v ∧ mvQ (M 3) (M 4) (M' 3) (M' 4) v p)))) := by
  refine ZN_of (L := [_, _, _]) (by decide) rfl rfl (Nat.le_of_ble_eq_true rfl) rfl (fun hav => ?_)
  refine Z_iload_n (n := 1) dX3_move_0 rfl rfl ?_
  refine Z_callSi (n := 4) [_] _ dX3_move_1 rfl cwX3_70 rfl rfl (Nat.le_of_ble_eq_true rfl) (by refine ⟨?_, ?_, ?_, ?_⟩ <;> exact Nat.le_of_ble_eq_true rfl) (fun _ _ => trivial) (zX3_isVariable  ) ?_
  intro x1 M1 J1 z1 f1 q1
  obtain ⟨e1_1, e1_2, h1⟩ := q1
  replace e1_1 := e1_1.symm; subst e1_1
  replace e1_2 := e1_2.symm; subst e1_2
  refine Z_if_eq (n := 7) (t := 14) dX3_move_4 rfl (by decide) (fun c4 => ?_) (fun c4 => ?_)
  · refine Z_bipush (n := 16) dX3_move_14 rfl (by decide) (by decide) ?_
    refine Z_iret dX3_move_16 rfl ?_
    exact ⟨rfl, hC, Or.inl ⟨by omega, rfl, rfl⟩⟩
  · refine Z_iload_n (n := 8) dX3_move_7 rfl rfl ?_
    refine Z_callSi (n := 11) [_] _ dX3_move_8 rfl cwX3_70 rfl rfl (Nat.le_of_ble_eq_true rfl) (by refine ⟨?_, ?_, ?_, ?_⟩ <;> exact Nat.le_of_ble_eq_true rfl) (fun _ _ => trivial) (zX3_isVariable  ) ?_
    intro x8 M8 J8 z8 f8 q8
    obtain ⟨e8_1, e8_2, h8⟩ := q8
    replace e8_1 := e8_1.symm; subst e8_1
    replace e8_2 := e8_2.symm; subst e8_2
    refine Z_if_ne (n := 14) (t := 17) dX3_move_11 rfl (by decide) (fun c11 => ?_) (fun c11 => ?_)
    · refine Z_aload_n (n := 18) dX3_move_17 rfl rfl ?_
      refine Z_callVi (n := 21) [] _ dX3_move_18 rfl cwX3_98 rfl rfl (by first | rfl | exact nS0 (nA_at (by omega) (by omega))) (Nat.le_of_ble_eq_true rfl) (by refine ⟨?_, ?_, ?_, ?_⟩ <;> exact Nat.le_of_ble_eq_true rfl) (fun _ _ => trivial) (zX3_heldCount  ) ?_
      intro x18 M18 J18 z18 f18 q18
      obtain ⟨e18_1, e18_2, h18⟩ := q18
      replace e18_1 := e18_1.symm; subst e18_1
      replace e18_2 := e18_2.symm; subst e18_2
      refine Z_if_le (n := 24) (t := 27) dX3_move_21 rfl (by decide) (fun c21 => ?_) (fun c21 => ?_)
      · refine Z_aload_n (n := 28) dX3_move_27 rfl rfl ?_
        refine Z_getO (n := 31) dX3_move_28 rfl ffX3_18 (by first | rfl | exact nS0 (nA_at (by omega) (by omega))) (by first | rfl | exact nS0 (nA_at (by omega) (by omega))) ?_
        refine Z_iload_n (n := 32) dX3_move_31 rfl rfl ?_
        refine Z_iload_n (n := 33) dX3_move_32 rfl rfl ?_
        refine Z_callVi (n := 36) [_, _] _ dX3_move_33 rfl cwX3_111 rfl rfl (by first | rfl | exact nS0 (nA_at (by omega) (by omega))) (Nat.le_of_ble_eq_true rfl) (by refine ⟨?_, ?_, ?_, ?_⟩ <;> exact Nat.le_of_ble_eq_true rfl) (fun _ h => h) (zX1_moveTo_f  (by omega) (by omega) (by omega) (by omega) (by exact hC.2.1 v (by omega) (by omega)) (by exact hI)) ?_
        intro x33 M33 J33 z33 f33 q33
        obtain ⟨h33, e33_1, mv33⟩ := q33
        replace e33_1 := e33_1.symm; subst e33_1
        refine Z_fr (fun frR => ?_)
        refine Z_iret dX3_move_36 rfl ?_
        have hO : ordOK M33 := fun w a b => ((mv_in hI (by omega) (by omega) (by omega) (by omega) mv33) w a b).1.1
        exact ⟨rfl, cI_mk hC (fun a ha => frR a (by unfold kPub at ha; unfold kOrd; omega)) (pI_fr hC.1 (f33 5 (by decide)).1 (f33 6 (by decide)).1 (f33 10 (by decide)).1 (f33 11 (by decide)).1) hO, Or.inr (Or.inr ⟨by omega, by omega, h33, mv33⟩)⟩
      · refine Z_bipush (n := 26) dX3_move_24 rfl (by decide) (by decide) ?_
        refine Z_iret dX3_move_26 rfl ?_
        exact ⟨rfl, hC, Or.inr (Or.inl ⟨by omega, by omega, rfl, rfl⟩)⟩
    · refine Z_bipush (n := 16) dX3_move_14 rfl (by decide) (by decide) ?_
      refine Z_iret dX3_move_16 rfl ?_
      exact ⟨rfl, hC, Or.inl ⟨by omega, rfl, rfl⟩⟩
set_option maxRecDepth 20000 in
theorem zX3_order_f {G : tl_G} {M : zM} {J : zJ} {net : Int} (hC : cI M) : ZN G yX3_order mX3_order 44 kOc [vR 0, vI net] F1 M J (qI (fun x M' J' => J' = J ∧ cI M' ∧ (((net < 0 ∨ 3 ≤ net) ∧ x = -1 ∧ M' = M) ∨ (0 ≤ net ∧ net < 3 ∧ 0 < hc (M 12) 12 ∧ x = -3 ∧ M' = M) ∨ (0 ≤ net ∧ net < 3 ∧ hc (M 12) 12 ≤ 0 ∧ orQ (vr (vs (M (nA net + 1)) (fun g c => M (nA net + 2) (3 * g + c)) 40) (M (nA net + 3)) (M (nA net) 5).toNat 0 (o0 (M 3))) x (M' 3) (M' 4) ∧ oIn (M' 3) (M' 4))))) := by
  refine ZN_of (L := [_, _]) (by decide) rfl rfl (Nat.le_of_ble_eq_true rfl) rfl (fun hav => ?_)
  refine Z_iload_n (n := 1) dX3_order_0 rfl rfl ?_
  refine Z_callSi (n := 4) [_] _ dX3_order_1 rfl cwX3_62 rfl rfl (Nat.le_of_ble_eq_true rfl) (by refine ⟨?_, ?_, ?_, ?_⟩ <;> exact Nat.le_of_ble_eq_true rfl) (fun _ _ => trivial) (zX3_isNet  ) ?_
  intro x1 M1 J1 z1 f1 q1
  obtain ⟨e1_1, e1_2, h1⟩ := q1
  replace e1_1 := e1_1.symm; subst e1_1
  replace e1_2 := e1_2.symm; subst e1_2
  refine Z_if_ne (n := 7) (t := 9) dX3_order_4 rfl (by decide) (fun c4 => ?_) (fun c4 => ?_)
  · refine Z_aload_n (n := 10) dX3_order_9 rfl rfl ?_
    refine Z_callVi (n := 13) [] _ dX3_order_10 rfl cwX3_98 rfl rfl (by first | rfl | exact nS0 (nA_at (by omega) (by omega))) (Nat.le_of_ble_eq_true rfl) (by refine ⟨?_, ?_, ?_, ?_⟩ <;> exact Nat.le_of_ble_eq_true rfl) (fun _ _ => trivial) (zX3_heldCount  ) ?_
    intro x10 M10 J10 z10 f10 q10
    obtain ⟨e10_1, e10_2, h10⟩ := q10
    replace e10_1 := e10_1.symm; subst e10_1
    replace e10_2 := e10_2.symm; subst e10_2
    refine Z_if_le (n := 16) (t := 19) dX3_order_13 rfl (by decide) (fun c13 => ?_) (fun c13 => ?_)
    · refine Z_aload_n (n := 20) dX3_order_19 rfl rfl ?_
      refine Z_getO (n := 23) dX3_order_20 rfl ffX3_18 (by first | rfl | exact nS0 (nA_at (by omega) (by omega))) (by first | rfl | exact nS0 (nA_at (by omega) (by omega))) ?_
      refine Z_callVv (n := 26) [] _ dX3_order_23 rfl cwX3_101 rfl rfl (by first | rfl | exact nS0 (nA_at (by omega) (by omega))) (Nat.le_of_ble_eq_true rfl) (by refine ⟨?_, ?_, ?_, ?_⟩ <;> exact Nat.le_of_ble_eq_true rfl) (fun _ h => h) (zX1_forget  (by decide) (by decide)) ?_
      intro M23 J23 f23 q23
      obtain ⟨e23_1, e23_2⟩ := q23
      replace e23_1 := e23_1.symm; subst e23_1
      replace e23_2 := e23_2.symm; subst e23_2
      have hm23 : oMet (uz (fillz M 4 8 (-1)) 2 2 0) := by
        unfold oMet
        rw [uz_s, uz_o (by decide), hc_zero (fun k k0 k1 => fillz_a k0 (by omega))]
      have o23 : ∀ a : Nat, ¬ a = 2 → ¬ a = 4 → (uz (fillz M 4 8 (-1)) 2 2 0) a = M a := fun a h1 h2 => by rw [uz_o h1, fillz_o h2]
      have hNm := cI_net hC (nA_at (j := net) (by omega) (by omega))
      have hN23 : netOK (uz (fillz M 4 8 (-1)) 2 2 0) (nA net) := netOK_fr hNm (o23 _ (by unfold nA; omega) (by unfold nA; omega)) (o23 _ (by unfold nA; omega) (by unfold nA; omega)) (o23 _ (by unfold nA; omega) (by unfold nA; omega)) (o23 _ (by unfold nA; omega) (by unfold nA; omega))
      have sc23 : ((rs 40 (fun _ => 0), (sc (nA net) (uz (fillz M 4 8 (-1)) 2 2 0)).2) : oS) = o0 (M 3) := by
        unfold sc o0
        rw [uz_s, uz_o (show (4 : Nat) ≠ 2 by decide), o23 3 (by decide) (by decide), rs_cg (f' := fillz M 4 8 (-1) 4) (f := fun _ => -1) (n := 8) (fun j a c => fillz_a a (by omega))]
        try rfl
      refine Z_aload_n (n := 27) dX3_order_26 rfl rfl ?_
      refine Z_getA (n := 30) dX3_order_27 rfl ffX3_11 (by first | rfl | exact nS0 (nA_at (by omega) (by omega))) (by first | rfl | exact nS0 (nA_at (by omega) (by omega))) ?_
      refine Z_iload_n (n := 31) dX3_order_30 rfl rfl ?_
      refine Z_aald (n := 32) dX3_order_31 rfl (by first | rfl | exact nS0 (nA_at (by omega) (by omega))) (by decide) (by omega) (by omega) (nA_P (by omega) (by omega)) ?_
      refine Z_aload_n (n := 33) dX3_order_32 rfl rfl ?_
      refine Z_getO (n := 36) dX3_order_33 rfl ffX3_18 (by first | rfl | exact nS0 (nA_at (by omega) (by omega))) (by first | rfl | exact nS0 (nA_at (by omega) (by omega))) ?_
      refine Z_callVv (n := 39) [_] _ dX3_order_36 rfl cwX3_104 rfl rfl (by first | rfl | exact nS0 (nA_at (by omega) (by omega))) (Nat.le_of_ble_eq_true rfl) (by refine ⟨?_, ?_, ?_, ?_⟩ <;> exact Nat.le_of_ble_eq_true rfl) (fun a h => by unfold kOc at h; unfold kGo nA; omega) (zX0_meetVariables_f  (by exact nA_at (by omega) (by omega)) (by exact hN23)) ?_
      intro M36 J36 f36 q36
      obtain ⟨e36_1, h36⟩ := q36
      replace e36_1 := e36_1.symm; subst e36_1
      obtain ⟨hm36, sc36⟩ := h36 hm23
      rw [sc23, o23 (nA net) (by unfold nA; omega) (by unfold nA; omega), o23 (nA net + 1) (by unfold nA; omega) (by unfold nA; omega), o23 (nA net + 2) (by unfold nA; omega) (by unfold nA; omega), o23 (nA net + 3) (by unfold nA; omega) (by unfold nA; omega)] at sc36
      refine Z_aload_n (n := 40) dX3_order_39 rfl rfl ?_
      refine Z_getO (n := 43) dX3_order_40 rfl ffX3_18 (by first | rfl | exact nS0 (nA_at (by omega) (by omega))) (by first | rfl | exact nS0 (nA_at (by omega) (by omega))) ?_
      refine Z_callVi (n := 46) [] _ dX3_order_43 rfl cwX3_108 rfl rfl (by first | rfl | exact nS0 (nA_at (by omega) (by omega))) (Nat.le_of_ble_eq_true rfl) (by refine ⟨?_, ?_, ?_, ?_⟩ <;> exact Nat.le_of_ble_eq_true rfl) (fun a h => by unfold kOc at h; unfold kOrd; omega) (zX1_meetOthers_f (b := nA net) (by unfold nA; omega)) ?_
      intro x43 M43 J43 z43 f43 q43
      obtain ⟨h43, e43_1, o43⟩ := q43
      replace e43_1 := e43_1.symm; subst e43_1
      refine Z_fr (fun frR => ?_)
      refine Z_iret dX3_order_46 rfl ?_
      obtain ⟨hm43, hO43, sc43⟩ := o43 hm36
      have pw : pW (sc (nA net) M43) := by
        rw [sc43, sc36]
        refine pW_F (pW_vr (fun i a b t ht => ?_) pW_0)
        have z := hNm.2 i (by omega) (by omega)
        exact pW_vs (m := M (nA net) 4) (fun g a b c c0 c1 => (hNm.1 g a b).1 c c0 c1) (fun g a b e => by show 0 ≤ M (nA net + 2) (3 * g + 0) ∧ M (nA net + 2) (3 * g + 0) < 8; rw [show 3 * g + 0 = 3 * g by omega]; exact (hNm.1 g a b).2 e) 40 _ t z.1 z.2 ht
      have m8 : M43 2 2 = 8 := by
        have e : M43 2 2 = hc (M43 4) 8 := hm43
        have e2 := hc_all (f := M43 4) (n := 8) (fun k a b => by have := hO43 k a (by omega); omega)
        omega
      have hin : oIn (M43 3) (M43 4) := oIn_rs (oIn_F pw m8 (fun v a b => by show 0 ≤ rs 8 (M43 4) v; rw [rs_in a b]; exact hO43 v a b))
      rw [sc36] at sc43
      refine ⟨rfl, cI_mk hC (fun a ha => frR a (by unfold kPub at ha; unfold kOc; omega)) (pI_fr hC.1 (frR 5 (by decide)).1 (frR 6 (by decide)).1 (frR 10 (by decide)).1 (frR 11 (by decide)).1) hO43, Or.inr (Or.inr ⟨by omega, by omega, by omega, ⟨?_, congrArg (fun s : oS => s.2.1) sc43, congrArg (fun s : oS => s.2.2.1) sc43⟩, hin⟩)⟩
      rw [h43]
      exact congrArg (fun s : oS => s.2.2.2) sc36
    · refine Z_bipush (n := 18) dX3_order_16 rfl (by decide) (by decide) ?_
      refine Z_iret dX3_order_18 rfl ?_
      exact ⟨rfl, hC, Or.inr (Or.inl ⟨by omega, by omega, by omega, rfl, rfl⟩)⟩
  · refine Z_iconst (n := 8) dX3_order_7 rfl (by decide) ?_
    refine Z_iret dX3_order_8 rfl ?_
    exact ⟨rfl, hC, Or.inl ⟨by omega, rfl, rfl⟩⟩
