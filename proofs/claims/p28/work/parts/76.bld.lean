/-! ===== the class: needs, building ===== -/
set_option maxRecDepth 20000 in
theorem zX0_noteNeedsOf_f {G : tl_G} {M : zM} {J : zJ} {b : Nat} {g t : Int} (hb : NetAt b) (hN : netOK M b) (h0 : 0 ≤ g) (h1 : g < M b 4) (hP : lnP (M (b + 1)) (fun g c => M (b + 2) (3 * g + c)) t (M 14) g 0) (hn : ¬ M 14 g = -1) (hg : g ≤ t) (ht : t < 40) : ZN G yX0_noteNeedsOf mX0_noteNeedsOf 1 kLN [vR b, vI g, vR 14] F1 M J (qV (fun M' J' => J' = J ∧ lnP (M (b + 1)) (fun g c => M (b + 2) (3 * g + c)) t (M' 14) g (opF (M (b + 1) g)))) := by
  refine ZN_of (L := [_, _, _, _, _]) (by decide) rfl rfl (Nat.le_of_ble_eq_true rfl) rfl (fun hav => ?_)
  refine Z_rg b 4 (nTg hb) (fun g4 g4b => ?_)
  have hop3 := opF_in (M (b + 1) g)
  refine Z_iconst (n := 1) dX0_noteNeedsOf_0 rfl (by decide) ?_
  refine Z_istore_n (L' := [_, _, _, _, _]) (n := 2) dX0_noteNeedsOf_1 rfl (by decide) rfl rfl ?_
  have lp2 : ∀ (N2 : Nat) (i : Int) (M2 : zM) (J2 : zJ), ((3 - i).toNat) < N2 → (J2 = J) → (0 ≤ i) → (i ≤ opF (M (b + 1) g)) → (lnP (M (b + 1)) (fun g c => M (b + 2) (3 * g + c)) t (M2 14) g i) → (¬ M2 14 g = -1) → TZ G mX0_noteNeedsOf (tl_rm 1 0 0) 0 0 kLN M J 2 [some (vR b), some (vI g), some (vR 14), some (vI i), none] [] F1 M2 J2 (ZM G (zPost G kLN F1 M J (qV (fun M' J' => J' = J ∧ lnP (M (b + 1)) (fun g c => M (b + 2) (3 * g + c)) t (M' 14) g (opF (M (b + 1) g))))) 0 0) := by
    intro N2
    induction N2 with
    | zero => intro i M2 J2 hN; omega
    | succ N2 ih2 =>
      intro i M2 J2 hN2 i2_0 i2_1 i2_2 i2_3 i2_4
      refine Z_iload_n (n := 3) dX0_noteNeedsOf_2 rfl rfl ?_
      refine Z_fr (fun fr2 => ?_)
      have hk : M2 (b + 1) g = M (b + 1) g := congrFun (fr2 (b + 1) (by unfold kLN; omega)).1 g
      refine Z_getsN (i := 1) (n := 6) dX0_noteNeedsOf_3 rfl (by decide) (by decide) rfl rfl ?_
      refine Z_aload_n (n := 7) dX0_noteNeedsOf_6 rfl rfl ?_
      refine Z_getA (n := 10) dX0_noteNeedsOf_7 rfl ffX0_9 (by first | exact nS0 hb | exact nS1 hb | exact nS2 hb | exact nS3 hb | exact nS4 hb | exact nP0 hb | exact nP1 hb | exact nP2 hb | exact nP3 hb | rfl) (by first | exact nS0 hb | exact nS1 hb | exact nS2 hb | exact nS3 hb | exact nS4 hb | exact nP0 hb | exact nP1 hb | exact nP2 hb | exact nP3 hb | rfl) ?_
      refine Z_iload_n (n := 11) dX0_noteNeedsOf_10 rfl rfl ?_
      refine Z_iald (n := 12) dX0_noteNeedsOf_11 rfl (by first | exact nS0 hb | exact nS1 hb | exact nS2 hb | exact nS3 hb | exact nS4 hb | exact nP0 hb | exact nP1 hb | exact nP2 hb | exact nP3 hb | rfl) (by first | exact nTg hb | exact nTo hb | exact nT1 hb | exact nT2 hb | exact nT3 hb | exact nT4 hb | rfl) (by first | decide | assumption) (by omega) (by omega) (fun r11 s11 => ?_)
      refine Z_ialdS1 (n := 13) dX0_noteNeedsOf_12 rfl (by omega) (by omega) (fun r12 s12 => ?_)
      refine Z_icmp_ge (n := 16) (t := 43) dX0_noteNeedsOf_13 rfl (by decide) (fun c13 => ?_) (fun c13 => ?_)
      · refine Z_vret dX0_noteNeedsOf_43 rfl ?_
        rw [hk] at c13
        refine ⟨i2_0, ?_⟩
        rw [show opF (M (b + 1) g) = i by omega]
        exact i2_3
      · refine Z_aload_n (n := 17) dX0_noteNeedsOf_16 rfl rfl ?_
        refine Z_iload_n (n := 18) dX0_noteNeedsOf_17 rfl rfl ?_
        refine Z_iload_n (n := 19) dX0_noteNeedsOf_18 rfl rfl ?_
        refine Z_callVi (n := 22) [_, _] _ dX0_noteNeedsOf_19 rfl cwX0_42 rfl rfl (by first | exact nS0 hb | exact nS1 hb | exact nS2 hb | exact nS3 hb | exact nS4 hb | exact nP0 hb | exact nP1 hb | exact nP2 hb | exact nP3 hb | rfl) (Nat.le_of_ble_eq_true rfl) (by refine ⟨?_, ?_, ?_, ?_⟩ <;> exact Nat.le_of_ble_eq_true rfl) (fun _ _ => trivial) (zX0_operand  (by first | assumption | omega | decide) (by first | assumption | omega | decide) (by first | assumption | omega | decide) (by first | assumption | omega | decide) (by first | assumption | omega | decide)) ?_
        intro x19 M19 J19 z19 f19 q19
        obtain ⟨e19_1, e19_2, h19⟩ := q19
        replace e19_1 := e19_1.symm; subst e19_1
        replace e19_2 := e19_2.symm; subst e19_2
        rw [congrFun (fr2 (b + 2) (by unfold kLN; omega)).1 _] at h19
        have hi : i < opF (M (b + 1) g) := by rw [← hk]; omega
        have hop := (hN.1 g h0 h1).1 i (by omega) hi
        rw [← h19] at hop
        refine Z_istore (L' := [_, _, _, _, _]) (n := 24) dX0_noteNeedsOf_22 rfl (by decide) rfl rfl ?_
        refine Z_aload_n (n := 25) dX0_noteNeedsOf_24 rfl rfl ?_
        refine Z_iload (n := 27) dX0_noteNeedsOf_25 rfl rfl ?_
        refine Z_iald (n := 28) dX0_noteNeedsOf_27 rfl (by first | exact nS0 hb | exact nS1 hb | exact nS2 hb | exact nS3 hb | exact nS4 hb | exact nP0 hb | exact nP1 hb | exact nP2 hb | exact nP3 hb | rfl) (by first | exact nTg hb | exact nTo hb | exact nT1 hb | exact nT2 hb | exact nT3 hb | exact nT4 hb | rfl) (by first | decide | assumption) (by omega) (by omega) (fun r27 s27 => ?_)
        refine Z_iconst (n := 29) dX0_noteNeedsOf_28 rfl (by decide) ?_
        refine Z_icmp_ne (n := 32) (t := 37) dX0_noteNeedsOf_29 rfl (by decide) (fun c29 => ?_) (fun c29 => ?_)
        · have nx3 : lnP (M (b + 1)) (fun g c => M (b + 2) (3 * g + c)) t (M2 14) g (i + 1) := lnP_st i2_3 i2_4 hg (by omega) hi h19.symm hop.1 hop.2 ht (Or.inr ⟨c29, rfl⟩)
          have nx4 := i2_4
          refine Z_iinc (L' := [_, _, _, _, _]) (n := 40) dX0_noteNeedsOf_37 rfl rfl (by decide) rfl rfl (by omega) rfl ?_
          refine Z_goto (t := 2) dX0_noteNeedsOf_40 (by decide) ?_
          refine Z_loc (L' := [some _, some _, some _, some _, none]) (lsub_same (lsub_same (lsub_same (lsub_same (lsub_none lsub_nil))))) ?_
          exact ih2 _ _ _ (by omega) (by assumption) (by first | assumption | omega | decide) (by omega) (by exact nx3) (by exact nx4)
        · refine Z_aload_n (n := 33) dX0_noteNeedsOf_32 rfl rfl ?_
          refine Z_iload (n := 35) dX0_noteNeedsOf_33 rfl rfl ?_
          refine Z_iload_n (n := 36) dX0_noteNeedsOf_35 rfl rfl ?_
          refine Z_iast (n := 37) dX0_noteNeedsOf_36 rfl (by first | exact nS0 hb | exact nS1 hb | exact nS2 hb | exact nS3 hb | exact nS4 hb | exact nP0 hb | exact nP1 hb | exact nP2 hb | exact nP3 hb | rfl) (by first | exact nTg hb | exact nTo hb | exact nT1 hb | exact nT2 hb | exact nT3 hb | exact nT4 hb | rfl) (by first | decide | assumption) (by omega) (by omega) (by first | assumption | omega | decide) (by first | assumption | omega | decide) (by decide) ?_
          have nx3 : lnP (M (b + 1)) (fun g c => M (b + 2) (3 * g + c)) t (uz M2 14 x19 g 14) g (i + 1) := lnP_st i2_3 i2_4 hg (by omega) hi h19.symm hop.1 hop.2 ht (Or.inl ⟨c29, uz_fn⟩)
          have nx4 : ¬ uz M2 14 x19 g 14 g = -1 := by rw [uz_n (by omega)]; exact i2_4
          refine Z_iinc (L' := [_, _, _, _, _]) (n := 40) dX0_noteNeedsOf_37 rfl rfl (by decide) rfl rfl (by omega) rfl ?_
          refine Z_goto (t := 2) dX0_noteNeedsOf_40 (by decide) ?_
          refine Z_loc (L' := [some _, some _, some _, some _, none]) (lsub_same (lsub_same (lsub_same (lsub_same (lsub_none lsub_nil))))) ?_
          exact ih2 _ _ _ (by omega) (by assumption) (by first | assumption | omega | decide) (by omega) (by exact nx3) (by exact nx4)
  refine Z_loc (L' := [some _, some _, some _, some _, none]) (lsub_same (lsub_same (lsub_same (lsub_same (lsub_none lsub_nil))))) ?_
  exact lp2 _ _ _ _ (Nat.lt_succ_self _) (by rfl) (by first | assumption | omega | decide) (by exact (opF_in _).1) (by exact hP) (by exact hn)
set_option maxRecDepth 20000 in
theorem zX0_findNeeds_f {G : tl_G} {M : zM} {J : zJ} {b : Nat} {o : Int} (hb : NetAt b) (hN : netOK M b) (h0 : 0 ≤ o) (h1 : o < M b 5) : ZN G yX0_findNeeds mX0_findNeeds 2 kLN [vR b, vI o, vR 14] F1 M J (qI (fun x M' J' => J' = J ∧ x = M (b + 3) o ∧ lnS (M (b + 1)) (fun g c => M (b + 2) (3 * g + c)) (M (b + 3) o) (M' 14))) := by
  refine ZN_of (L := [_, _, _, _, _]) (by decide) rfl rfl (Nat.le_of_ble_eq_true rfl) rfl (fun hav => ?_)
  refine Z_rg b 5 (nTo hb) (fun g5 g5b => ?_)
  refine Z_rg b 4 (nTg hb) (fun g4 g4b => ?_)
  have ho := hN.2 o h0 h1
  refine Z_aload_n (n := 1) dX0_findNeeds_0 rfl rfl ?_
  refine Z_iconst (n := 2) dX0_findNeeds_1 rfl (by decide) ?_
  refine Z_callSv (n := 5) [_, _] _ dX0_findNeeds_2 rfl cwX0_48 rfl rfl (Nat.le_of_ble_eq_true rfl) (by refine ⟨?_, ?_, ?_, ?_⟩ <;> exact Nat.le_of_ble_eq_true rfl) (fun _ h => h) (zJ7_fill_53178  (by rfl) (by decide) (by exact fun _ => rfl) (by decide) (by decide) (by decide)) ?_
  intro M2 J2 f2 q2
  obtain ⟨e2_1, e2_2⟩ := q2
  replace e2_1 := e2_1.symm; subst e2_1
  replace e2_2 := e2_2.symm; subst e2_2
  
  refine Z_aload_n (n := 6) dX0_findNeeds_5 rfl rfl ?_
  refine Z_getA (n := 9) dX0_findNeeds_6 rfl ffX0_18 (by first | exact nS0 hb | exact nS1 hb | exact nS2 hb | exact nS3 hb | exact nS4 hb | exact nP0 hb | exact nP1 hb | exact nP2 hb | exact nP3 hb | rfl) (by first | exact nS0 hb | exact nS1 hb | exact nS2 hb | exact nS3 hb | exact nS4 hb | exact nP0 hb | exact nP1 hb | exact nP2 hb | exact nP3 hb | rfl) ?_
  refine Z_iload_n (n := 10) dX0_findNeeds_9 rfl rfl ?_
  refine Z_iald (n := 11) dX0_findNeeds_10 rfl (by first | exact nS0 hb | exact nS1 hb | exact nS2 hb | exact nS3 hb | exact nS4 hb | exact nP0 hb | exact nP1 hb | exact nP2 hb | exact nP3 hb | rfl) (by first | exact nTg hb | exact nTo hb | exact nT1 hb | exact nT2 hb | exact nT3 hb | exact nT4 hb | rfl) (by first | decide | assumption) (by omega) (by omega) (fun r10 s10 => ?_)
  rw [show fillz M 14 (40 : Nat) (-1) (b + 3) o = M (b + 3) o from congrFun (fillz_o (by omega)) o] at r10 s10 ⊢
  refine Z_istore_n (L' := [_, _, _, _, _]) (n := 12) dX0_findNeeds_11 rfl (by decide) rfl rfl ?_
  refine Z_aload_n (n := 13) dX0_findNeeds_12 rfl rfl ?_
  refine Z_iload_n (n := 14) dX0_findNeeds_13 rfl rfl ?_
  refine Z_iload_n (n := 15) dX0_findNeeds_14 rfl rfl ?_
  refine Z_iast (n := 16) dX0_findNeeds_15 rfl (by first | exact nS0 hb | exact nS1 hb | exact nS2 hb | exact nS3 hb | exact nS4 hb | exact nP0 hb | exact nP1 hb | exact nP2 hb | exact nP3 hb | rfl) (by first | exact nTg hb | exact nTo hb | exact nT1 hb | exact nT2 hb | exact nT3 hb | exact nT4 hb | rfl) (by first | decide | assumption) (by omega) (by omega) (by first | assumption | omega | decide) (by first | assumption | omega | decide) (by decide) ?_
  refine Z_iload_n (n := 17) dX0_findNeeds_16 rfl rfl ?_
  refine Z_istore (L' := [_, _, _, _, _]) (n := 19) dX0_findNeeds_17 rfl (by decide) rfl rfl ?_
  have lp19 : ∀ (N19 : Nat) (g : Int) (M19 : zM) (J19 : zJ), ((g + 1).toNat) < N19 → (J19 = J) → (-1 ≤ g) → (g ≤ M (b + 3) o) → (lnP (M (b + 1)) (fun g c => M (b + 2) (3 * g + c)) (M (b + 3) o) (M19 14) g 0) → TZ G mX0_findNeeds (tl_rm 2 0 0) 0 0 kLN M J 19 [some (vR b), some (vI o), some (vR 14), some (vI (M (b + 3) o)), some (vI g)] [] F1 M19 J19 (ZM G (zPost G kLN F1 M J (qI (fun x M' J' => J' = J ∧ x = M (b + 3) o ∧ lnS (M (b + 1)) (fun g c => M (b + 2) (3 * g + c)) (M (b + 3) o) (M' 14)))) 0 0) := by
    intro N19
    induction N19 with
    | zero => intro g M19 J19 hN; omega
    | succ N19 ih19 =>
      intro g M19 J19 hN19 i19_0 i19_1 i19_2 i19_3
      refine Z_iload (n := 21) dX0_findNeeds_19 rfl rfl ?_
      refine Z_if_lt (n := 24) (t := 45) dX0_findNeeds_21 rfl (by decide) (fun c21 => ?_) (fun c21 => ?_)
      · refine Z_iload_n (n := 46) dX0_findNeeds_45 rfl rfl ?_
        refine Z_iret dX0_findNeeds_46 rfl ?_
        refine ⟨i19_0, rfl, ?_⟩
        have q := i19_3
        rw [show g = -1 by omega] at q
        exact lnP_end q
      · refine Z_fr (fun fr19 => ?_)
        have hN19 : netOK M19 b := netOK_fr hN (fr19 b (by unfold kLN; omega)).1 (fr19 (b + 1) (by unfold kLN; omega)).1 (fr19 (b + 2) (by unfold kLN; omega)).1 (fr19 (b + 3) (by unfold kLN; omega)).1
        have hb4 : M19 b 4 = M b 4 := congrFun (fr19 b (by unfold kLN; omega)).1 4
        refine Z_aload_n (n := 25) dX0_findNeeds_24 rfl rfl ?_
        refine Z_iload (n := 27) dX0_findNeeds_25 rfl rfl ?_
        refine Z_iald (n := 28) dX0_findNeeds_27 rfl (by first | exact nS0 hb | exact nS1 hb | exact nS2 hb | exact nS3 hb | exact nS4 hb | exact nP0 hb | exact nP1 hb | exact nP2 hb | exact nP3 hb | rfl) (by first | exact nTg hb | exact nTo hb | exact nT1 hb | exact nT2 hb | exact nT3 hb | exact nT4 hb | rfl) (by first | decide | assumption) (by omega) (by omega) (fun r27 s27 => ?_)
        refine Z_iconst (n := 29) dX0_findNeeds_28 rfl (by decide) ?_
        refine Z_icmp_eq (n := 32) (t := 39) dX0_findNeeds_29 rfl (by decide) (fun c29 => ?_) (fun c29 => ?_)
        · have nx : ∀ q : Int, q = g - 1 → lnP (M (b + 1)) (fun g c => M (b + 2) (3 * g + c)) (M (b + 3) o) (M19 14) q 0 := fun q e => by rw [e]; exact lnP_dn i19_3 (Or.inl c29)
          refine Z_iinc (L' := [_, _, _, _, _]) (n := 42) dX0_findNeeds_39 rfl rfl (by decide) rfl rfl (by omega) rfl ?_
          refine Z_goto (t := 19) dX0_findNeeds_42 (by decide) ?_
          refine Z_loc (L' := [some _, some _, some _, some _, some _]) (lsub_same (lsub_same (lsub_same (lsub_same (lsub_same lsub_nil))))) ?_
          exact ih19 _ _ _ (by omega) (by assumption) (by first | assumption | omega | decide) (by first | assumption | omega | decide) (by exact nx _ (by omega))
        · refine Z_aload_n (n := 33) dX0_findNeeds_32 rfl rfl ?_
          refine Z_iload (n := 35) dX0_findNeeds_33 rfl rfl ?_
          refine Z_aload_n (n := 36) dX0_findNeeds_35 rfl rfl ?_
          have hP36 : lnP (M19 (b + 1)) (fun g c => M19 (b + 2) (3 * g + c)) (M (b + 3) o) (M19 14) g 0 := by
            rw [(fr19 (b + 1) (by unfold kLN; omega)).1, (fr19 (b + 2) (by unfold kLN; omega)).1]
            exact i19_3
          refine Z_callVv (n := 39) [_, _] _ dX0_findNeeds_36 rfl cwX0_54 rfl rfl (by first | exact nS0 hb | exact nS1 hb | exact nS2 hb | exact nS3 hb | exact nS4 hb | exact nP0 hb | exact nP1 hb | exact nP2 hb | exact nP3 hb | rfl) (Nat.le_of_ble_eq_true rfl) (by refine ⟨?_, ?_, ?_, ?_⟩ <;> exact Nat.le_of_ble_eq_true rfl) (fun _ h => h) (zX0_noteNeedsOf_f  (by first | assumption | omega | decide) (by exact hN19) (by omega) (by omega) (by exact hP36) (by exact c29) (by omega) (by omega)) ?_
          intro M36 J36 f36 q36
          obtain ⟨e36_1, np36⟩ := q36
          replace e36_1 := e36_1.symm; subst e36_1
          rw [(fr19 (b + 1) (by unfold kLN; omega)).1, (fr19 (b + 2) (by unfold kLN; omega)).1] at np36
          have nx : ∀ q : Int, q = g - 1 → lnP (M (b + 1)) (fun g c => M (b + 2) (3 * g + c)) (M (b + 3) o) (M36 14) q 0 := fun q e => by rw [e]; exact lnP_dn np36 (Or.inr (Int.le_refl _))
          refine Z_iinc (L' := [_, _, _, _, _]) (n := 42) dX0_findNeeds_39 rfl rfl (by decide) rfl rfl (by omega) rfl ?_
          refine Z_goto (t := 19) dX0_findNeeds_42 (by decide) ?_
          refine Z_loc (L' := [some _, some _, some _, some _, some _]) (lsub_same (lsub_same (lsub_same (lsub_same (lsub_same lsub_nil))))) ?_
          exact ih19 _ _ _ (by omega) (by assumption) (by first | assumption | omega | decide) (by first | assumption | omega | decide) (by exact nx _ (by omega))
  refine Z_loc (L' := [some _, some _, some _, some _, some _]) (lsub_same (lsub_same (lsub_same (lsub_same (lsub_same lsub_nil))))) ?_
  exact lp19 _ _ _ _ (Nat.lt_succ_self _) (by rfl) (by first | assumption | omega | decide) (by first | assumption | omega | decide) (by exact lnP_0 (by rw [uz_s]) (fun x a b e => by rw [uz_n e]; exact fillz_a a (by omega)))
set_option maxRecDepth 20000 in
theorem zX3_madeFor_f {G : tl_G} {M : zM} {J : zJ} {b : Nat} {g i : Int} (hb : NetAt b) (hN : netOK M b) (h0 : 0 ≤ g) (h1 : g < M b 4) (h2 : 0 ≤ i) (h3 : i < 3) : ZN G yX3_madeFor mX3_madeFor 1 kAll [vR 0, vR b, vI g, vI i] F1 M J (qI (fun x M' J' => M' = M ∧ J' = J ∧ x = (if i < opF (M (b + 1) g) then M 13 (M (b + 2) (3 * g + i)) else 0))) := by
  refine ZN_of (L := [_, _, _, _]) (by decide) rfl rfl (Nat.le_of_ble_eq_true rfl) rfl (fun hav => ?_)
  refine Z_rg b 4 (nTg hb) (fun g4 g4b => ?_)
  refine Z_iload_n (n := 1) dX3_madeFor_0 rfl rfl ?_
  refine Z_gets (i := 1) (n := 4) dX3_madeFor_1 rfl (by decide) (by decide) sfX3_245 ?_
  refine Z_aload_n (n := 5) dX3_madeFor_4 rfl rfl ?_
  refine Z_iload_n (n := 6) dX3_madeFor_5 rfl rfl ?_
  refine Z_callVi (n := 9) [_] _ dX3_madeFor_6 rfl cwX3_231 rfl rfl (by first | rfl | exact nS0 hb) (Nat.le_of_ble_eq_true rfl) (by refine ⟨?_, ?_, ?_, ?_⟩ <;> exact Nat.le_of_ble_eq_true rfl) (fun _ h => h) (zX0_kindOf  (by first | assumption | omega | decide) (by first | assumption | omega | decide) (by first | assumption | omega | decide)) ?_
  intro x6 M6 J6 z6 f6 q6
  obtain ⟨e6_1, e6_2, h6⟩ := q6
  replace e6_1 := e6_1.symm; subst e6_1
  replace e6_2 := e6_2.symm; subst e6_2
  refine Z_rg (b + 1) g (nT1 hb) (fun k1 k1b => ?_)
  refine Z_ialdS1 (n := 10) dX3_madeFor_9 rfl (by omega) (by omega) (fun r9 s9 => ?_)
  refine Z_icmp_ge (n := 13) (t := 27) dX3_madeFor_10 rfl (by decide) (fun c10 => ?_) (fun c10 => ?_)
  · refine Z_iconst (n := 28) dX3_madeFor_27 rfl (by decide) ?_
    refine Z_iret dX3_madeFor_28 rfl ?_
    refine ⟨rfl, rfl, ?_⟩
    first
      | (rw [if_pos (show i < opF (M (b + 1) g) by rw [← h6]; omega), h20])
      | (rw [if_neg (show ¬ i < opF (M (b + 1) g) by rw [← h6]; omega)])
  · refine Z_aload_n (n := 14) dX3_madeFor_13 rfl rfl ?_
    refine Z_getA (n := 17) dX3_madeFor_14 rfl ffX3_33 (by first | rfl | exact nS0 hb) (by first | rfl | exact nS0 hb) ?_
    refine Z_aload_n (n := 18) dX3_madeFor_17 rfl rfl ?_
    refine Z_iload_n (n := 19) dX3_madeFor_18 rfl rfl ?_
    refine Z_iload_n (n := 20) dX3_madeFor_19 rfl rfl ?_
    refine Z_callVi (n := 23) [_, _] _ dX3_madeFor_20 rfl cwX3_234 rfl rfl (by first | rfl | exact nS0 hb) (Nat.le_of_ble_eq_true rfl) (by refine ⟨?_, ?_, ?_, ?_⟩ <;> exact Nat.le_of_ble_eq_true rfl) (fun _ h => h) (zX0_operand  (by first | assumption | omega | decide) (by first | assumption | omega | decide) (by first | assumption | omega | decide) (by first | assumption | omega | decide) (by first | assumption | omega | decide)) ?_
    intro x20 M20 J20 z20 f20 q20
    obtain ⟨e20_1, e20_2, h20⟩ := q20
    replace e20_1 := e20_1.symm; subst e20_1
    replace e20_2 := e20_2.symm; subst e20_2
    have hop := (hN.1 g h0 h1).1 i (by omega) (by rw [← h6]; omega)
    rw [← h20] at hop
    refine Z_iald (n := 24) dX3_madeFor_23 rfl (by first | rfl | exact nS0 hb) rfl (by first | decide | assumption) (by omega) (by omega) (fun r23 s23 => ?_)
    refine Z_goto (t := 28) dX3_madeFor_24 (by decide) ?_
    refine Z_iret dX3_madeFor_28 rfl ?_
    refine ⟨rfl, rfl, ?_⟩
    first
      | (rw [if_pos (show i < opF (M (b + 1) g) by rw [← h6]; omega), h20])
      | (rw [if_neg (show ¬ i < opF (M (b + 1) g) by rw [← h6]; omega)])
def lgP (L A A' : Int → Int) (od : Int → Int → Int) (g i : Int) : Prop := ∀ z : Int, (((∃ c : Int, (0 ≤ c ∧ c < i) ∧ od g c = z) ∧ L z = g) ∧ A' z = -1) ∨ (¬ ((∃ c : Int, (0 ≤ c ∧ c < i) ∧ od g c = z) ∧ L z = g) ∧ A' z = A z)
theorem lg_0 {L A : Int → Int} {od : Int → Int → Int} {g : Int} : lgP L A A od g 0 := fun z => Or.inr ⟨fun q => by obtain ⟨⟨c, cb, -⟩, -⟩ := q; omega, rfl⟩
theorem lg_no {L A A' : Int → Int} {od : Int → Int → Int} {g i : Int} (h : lgP L A A' od g i) (hn : ¬ L (od g i) = g) : lgP L A A' od g (i + 1) := fun z => by
  rcases h z with ⟨⟨⟨c, cb, a⟩, b⟩, d⟩ | ⟨a, b⟩
  · exact Or.inl ⟨⟨⟨c, by omega, a⟩, b⟩, d⟩
  · refine Or.inr ⟨fun q => ?_, b⟩
    obtain ⟨⟨c, cb, q⟩, w⟩ := q
    by_cases e : c = i
    · rw [e] at q; rw [q] at hn; exact hn w
    · exact a ⟨⟨c, by omega, q⟩, w⟩
theorem lg_up {L A A' : Int → Int} {od : Int → Int → Int} {g i x : Int} (h : lgP L A A' od g i) (i0 : 0 ≤ i) (hx : od g i = x) (hn : L x = g) : lgP L A (updI A' x (-1)) od g (i + 1) := fun z => by
  by_cases e : z = x
  · left
    rw [e, updI_s]
    exact ⟨⟨⟨i, by omega, hx⟩, hn⟩, rfl⟩
  · rw [updI_n e]
    rcases h z with ⟨⟨⟨c, cb, a⟩, b⟩, d⟩ | ⟨a, b⟩
    · exact Or.inl ⟨⟨⟨c, by omega, a⟩, b⟩, d⟩
    · refine Or.inr ⟨fun q => ?_, b⟩
      obtain ⟨⟨c, cb, q⟩, w⟩ := q
      by_cases ec : c = i
      · rw [ec, hx] at q; exact e q.symm
      · exact a ⟨⟨c, by omega, q⟩, w⟩
set_option maxRecDepth 20000 in
theorem zX3_letGoBehind_f {G : tl_G} {M : zM} {J : zJ} {b : Nat} {g : Int} (hb : NetAt b) (hN : netOK M b) (h0 : 0 ≤ g) (h1 : g < M b 4) : ZN G yX3_letGoBehind mX3_letGoBehind 1 k13 [vR 0, vR b, vI g] F1 M J (qV (fun M' J' => J' = J ∧ ∀ z : Int, 0 ≤ z → z < 40 → (((isop (M (b + 1)) (fun g c => M (b + 2) (3 * g + c)) g z) ∧ M 14 z = g) ∧ M' 13 z = -1) ∨ (¬ (isop (M (b + 1)) (fun g c => M (b + 2) (3 * g + c)) g z ∧ M 14 z = g) ∧ M' 13 z = M 13 z))) := by
  refine ZN_of (L := [_, _, _, _, _, _]) (by decide) rfl rfl (Nat.le_of_ble_eq_true rfl) rfl (fun hav => ?_)
  refine Z_rg b 4 (nTg hb) (fun g4 g4b => ?_)
  have hop3 := opF_in (M (b + 1) g)
  refine Z_gets (i := 1) (n := 3) dX3_letGoBehind_0 rfl (by decide) (by decide) sfX3_245 ?_
  refine Z_aload_n (n := 4) dX3_letGoBehind_3 rfl rfl ?_
  refine Z_iload_n (n := 5) dX3_letGoBehind_4 rfl rfl ?_
  refine Z_callVi (n := 8) [_] _ dX3_letGoBehind_5 rfl cwX3_231 rfl rfl (by first | rfl | exact nS0 hb) (Nat.le_of_ble_eq_true rfl) (by refine ⟨?_, ?_, ?_, ?_⟩ <;> exact Nat.le_of_ble_eq_true rfl) (fun _ _ => trivial) (zX0_kindOf  (by first | assumption | omega | decide) (by first | assumption | omega | decide) (by first | assumption | omega | decide)) ?_
  intro x5 M5 J5 z5 f5 q5
  obtain ⟨e5_1, e5_2, h5⟩ := q5
  replace e5_1 := e5_1.symm; subst e5_1
  replace e5_2 := e5_2.symm; subst e5_2
  refine Z_rg (b + 1) g (nT1 hb) (fun k1 k1b => ?_)
  refine Z_ialdS1 (n := 9) dX3_letGoBehind_8 rfl (by omega) (by omega) (fun r8 s8 => ?_)
  refine Z_istore_n (L' := [_, _, _, _, _, _]) (n := 10) dX3_letGoBehind_9 rfl (by decide) rfl rfl ?_
  refine Z_iconst (n := 11) dX3_letGoBehind_10 rfl (by decide) ?_
  refine Z_istore (L' := [_, _, _, _, _, _]) (n := 13) dX3_letGoBehind_11 rfl (by decide) rfl rfl ?_
  have lp13 : ∀ (N13 : Nat) (i : Int) (M13 : zM) (J13 : zJ), ((3 - i).toNat) < N13 → (J13 = J) → (0 ≤ i) → (i ≤ opF x5) → (lgP (M 14) (M 13) (M13 13) (fun g c => M (b + 2) (3 * g + c)) g i) → TZ G mX3_letGoBehind (tl_rm 1 0 0) 0 0 k13 M J 13 [some (vR 0), some (vR b), some (vI g), some (vI (opF x5)), some (vI i), none] [] F1 M13 J13 (ZM G (zPost G k13 F1 M J (qV (fun M' J' => J' = J ∧ ∀ z : Int, 0 ≤ z → z < 40 → (((isop (M (b + 1)) (fun g c => M (b + 2) (3 * g + c)) g z) ∧ M 14 z = g) ∧ M' 13 z = -1) ∨ (¬ (isop (M (b + 1)) (fun g c => M (b + 2) (3 * g + c)) g z ∧ M 14 z = g) ∧ M' 13 z = M 13 z)))) 0 0) := by
    intro N13
    induction N13 with
    | zero => intro i M13 J13 hN; omega
    | succ N13 ih13 =>
      intro i M13 J13 hN13 i13_0 i13_1 i13_2 i13_3
      have hop5 := opF_in x5
      refine Z_iload (n := 15) dX3_letGoBehind_13 rfl rfl ?_
      refine Z_iload_n (n := 16) dX3_letGoBehind_15 rfl rfl ?_
      refine Z_icmp_ge (n := 19) (t := 53) dX3_letGoBehind_16 rfl (by decide) (fun c16 => ?_) (fun c16 => ?_)
      · refine Z_vret dX3_letGoBehind_53 rfl ?_
        refine ⟨i13_0, fun z _ _ => ?_⟩
        have q := i13_3 z
        rw [show i = opF (M (b + 1) g) by rw [← h5]; omega] at q
        exact q
      · refine Z_fr (fun fr13 => ?_)
        refine Z_aload_n (n := 20) dX3_letGoBehind_19 rfl rfl ?_
        refine Z_iload_n (n := 21) dX3_letGoBehind_20 rfl rfl ?_
        refine Z_iload (n := 23) dX3_letGoBehind_21 rfl rfl ?_
        refine Z_callVi (n := 26) [_, _] _ dX3_letGoBehind_23 rfl cwX3_234 rfl rfl (by first | rfl | exact nS0 hb) (Nat.le_of_ble_eq_true rfl) (by refine ⟨?_, ?_, ?_, ?_⟩ <;> exact Nat.le_of_ble_eq_true rfl) (fun _ _ => trivial) (zX0_operand  (by first | assumption | omega | decide) (by first | assumption | omega | decide) (by first | assumption | omega | decide) (by first | assumption | omega | decide) (by first | assumption | omega | decide)) ?_
        intro x23 M23 J23 z23 f23 q23
        obtain ⟨e23_1, e23_2, h23⟩ := q23
        replace e23_1 := e23_1.symm; subst e23_1
        replace e23_2 := e23_2.symm; subst e23_2
        rw [congrFun (fr13 (b + 2) (by unfold k13; omega)).1 _] at h23
        have hop := (hN.1 g h0 h1).1 i (by omega) (by rw [← h5]; omega)
        rw [← h23] at hop
        refine Z_istore (L' := [_, _, _, _, _, _]) (n := 28) dX3_letGoBehind_26 rfl (by decide) rfl rfl ?_
        refine Z_aload_n (n := 29) dX3_letGoBehind_28 rfl rfl ?_
        refine Z_getA (n := 32) dX3_letGoBehind_29 rfl ffX3_36 (by first | rfl | exact nS0 hb) (by first | rfl | exact nS0 hb) ?_
        refine Z_iload (n := 34) dX3_letGoBehind_32 rfl rfl ?_
        refine Z_iald (n := 35) dX3_letGoBehind_34 rfl (by first | rfl | exact nS0 hb) rfl (by first | decide | assumption) (by omega) (by omega) (fun r34 s34 => ?_)
        refine Z_iload_n (n := 36) dX3_letGoBehind_35 rfl rfl ?_
        refine Z_icmp_ne (n := 39) (t := 47) dX3_letGoBehind_36 rfl (by decide) (fun c36 => ?_) (fun c36 => ?_)
        · have nx3 : lgP (M 14) (M 13) (M13 13) (fun g c => M (b + 2) (3 * g + c)) g (i + 1) := lg_no i13_3 (by
            show ¬ M 14 (M (b + 2) (3 * g + i)) = g
            rw [← h23, ← congrFun (fr13 14 (by decide)).1 x23]
            exact c36)
          refine Z_iinc (L' := [_, _, _, _, _, _]) (n := 50) dX3_letGoBehind_47 rfl rfl (by decide) rfl rfl (by omega) rfl ?_
          refine Z_goto (t := 13) dX3_letGoBehind_50 (by decide) ?_
          refine Z_loc (L' := [some _, some _, some _, some _, some _, none]) (lsub_same (lsub_same (lsub_same (lsub_same (lsub_same (lsub_none lsub_nil)))))) ?_
          exact ih13 _ _ _ (by omega) (by assumption) (by first | assumption | omega | decide) (by omega) (by exact nx3)
        · refine Z_aload_n (n := 40) dX3_letGoBehind_39 rfl rfl ?_
          refine Z_getA (n := 43) dX3_letGoBehind_40 rfl ffX3_33 (by first | rfl | exact nS0 hb) (by first | rfl | exact nS0 hb) ?_
          refine Z_iload (n := 45) dX3_letGoBehind_43 rfl rfl ?_
          refine Z_iconst (n := 46) dX3_letGoBehind_45 rfl (by decide) ?_
          refine Z_iast (n := 47) dX3_letGoBehind_46 rfl (by first | rfl | exact nS0 hb) rfl (by first | decide | assumption) (by omega) (by omega) (by first | assumption | omega | decide) (by first | assumption | omega | decide) (by decide) ?_
          have nx3 : lgP (M 14) (M 13) (uz M13 13 x23 (-1) 13) (fun g c => M (b + 2) (3 * g + c)) g (i + 1) := by
            rw [uz_fn]
            exact lg_up i13_3 (by omega) h23.symm (by rw [← congrFun (fr13 14 (by decide)).1 x23]; exact c36)
          refine Z_iinc (L' := [_, _, _, _, _, _]) (n := 50) dX3_letGoBehind_47 rfl rfl (by decide) rfl rfl (by omega) rfl ?_
          refine Z_goto (t := 13) dX3_letGoBehind_50 (by decide) ?_
          refine Z_loc (L' := [some _, some _, some _, some _, some _, none]) (lsub_same (lsub_same (lsub_same (lsub_same (lsub_same (lsub_none lsub_nil)))))) ?_
          exact ih13 _ _ _ (by omega) (by assumption) (by first | assumption | omega | decide) (by omega) (by exact nx3)
  refine Z_loc (L' := [some _, some _, some _, some _, some _, none]) (lsub_same (lsub_same (lsub_same (lsub_same (lsub_same (lsub_none lsub_nil)))))) ?_
  exact lp13 _ _ _ _ (Nat.lt_succ_self _) (by rfl) (by first | assumption | omega | decide) (by exact (opF_in _).1) (by exact lg_0)
/-- what was kept stays, what was built is kept behind it -/
def kpQ (M : zM) (x : Int) (M' : zM) : Prop := (M 0 7 ≤ M' 0 7 ∧ M' 0 7 ≤ M 0 7 + 1) ∧ (∀ k : Int, k < M 0 7 → M' 15 k = M 15 k) ∧ (¬ x = -1 → M' 0 7 = M 0 7 + 1 ∧ M' 15 (M 0 7) = x)
def bdX (M0 : zM) (E : Lb → Prop) (kd : Int → Int) (od : Int → Int → Int) (pl : Int → Int) (g x : Int) (M' : zM) : Prop := ∃ L : Int → Int, lnS kd od g L ∧ bdQ M0 E (gF kd od pl) L g x M'
theorem mf_op {M0 M : zM} {E : Lb → Prop} {F : Int → FN} {H : Int → Prop} {n i d x : Int} (h : gtI M0 M E F H) (hi : i < n → H d ∧ 0 ≤ d ∧ d < 40) (hx : x = (if i < n then M 13 d else 0)) : ¬ x = -1 ∧ opr M x ∧ ∀ r, den M x r = (if i < n then F d r else 0) := by
  by_cases q : i < n
  · obtain ⟨a, b, c⟩ := hi q
    rw [if_pos q] at hx
    obtain ⟨-, p2, p3⟩ := (h.2.2.2.2.1 d b c).resolve_right (fun t => t.1 a)
    refine ⟨by rw [hx]; exact p2, Or.inr (Or.inr ⟨Or.inr (Or.inl ⟨d, ⟨b, c⟩, hx⟩), by rw [hx]; exact p2⟩), fun r => ?_⟩
    rw [if_pos q, hx, p3]
  · rw [if_neg q] at hx
    refine ⟨by omega, Or.inl hx, fun r => ?_⟩
    rw [if_neg q, hx]
    exact den_0
set_option maxRecDepth 20000 in
theorem zX3_building_f {G : tl_G} {M : zM} {J : zJ} {b : Nat} {M0 : zM} {E : Lb → Prop} {o : Int} (hb : NetAt b) (hN : netOK M b) (h0 : 0 ≤ o) (h1 : o < M b 5) (hO : ordOK M) (hb0 : CB M0) (hm : mid M0 M E) (hg0 : ∀ x : Int, 0 ≤ x → x < 40 → M 13 x = -1) (h7 : M 0 7 < 8) : ZN G yX3_building mX3_building 13 kStep [vR 0, vR b, vI o] F1 M J (qI (fun x M' J' => J' = J ∧ (-1 ≤ x ∧ x ≤ 251) ∧ kpQ M x M' ∧ bdX M0 E (M (b + 1)) (fun g c => M (b + 2) (3 * g + c)) (M 4) (M (b + 3) o) x M')) := by
  refine ZN_of (L := [_, _, _, _, _, _, _]) (by decide) rfl rfl (Nat.le_of_ble_eq_true rfl) rfl (fun hav => ?_)
  refine Z_rg b 5 (nTo hb) (fun g5 g5b => ?_)
  refine Z_rg b 4 (nTg hb) (fun g4 g4b => ?_)
  refine Z_rg 0 7 rfl (fun g07 g07b => ?_)
  have ho := hN.2 o h0 h1
  refine Z_aload_n (n := 1) dX3_building_0 rfl rfl ?_
  refine Z_iload_n (n := 2) dX3_building_1 rfl rfl ?_
  refine Z_aload_n (n := 3) dX3_building_2 rfl rfl ?_
  refine Z_getA (n := 6) dX3_building_3 rfl ffX3_36 (by first | rfl | exact nS0 hb) (by first | rfl | exact nS0 hb) ?_
  refine Z_callVi (n := 9) [_, _] _ dX3_building_6 rfl cwX3_227 rfl rfl (by first | rfl | exact nS0 hb) (Nat.le_of_ble_eq_true rfl) (by refine ⟨?_, ?_, ?_, ?_⟩ <;> exact Nat.le_of_ble_eq_true rfl) (fun a h => by unfold kStep at h; unfold kLN; omega) (zX0_findNeeds_f  (by first | assumption | omega | decide) (by first | assumption | omega | decide) (by first | assumption | omega | decide) (by first | assumption | omega | decide)) ?_
  intro x6 M6 J6 z6 f6 q6
  obtain ⟨e6_1, h6, ls6⟩ := q6
  replace e6_1 := e6_1.symm; subst e6_1
  subst h6
  obtain ⟨L, hL⟩ : ∃ L : Int → Int, L = M6 14 := ⟨_, rfl⟩
  rw [← hL] at ls6
  have gt6 : gtI M0 M6 E (gF (M (b + 1)) (fun g c => M (b + 2) (3 * g + c)) (M 4)) (hnd L (M (b + 3) o) 0) := gt_H (gt_cg (congrFun (f6 0 (by decide)).1 7) (f6 5 (by decide)).1 (f6 6 (by decide)).1 (f6 7 (by decide)).1 (f6 8 (by decide)).1 (f6 10 (by decide)).1 (f6 11 (by decide)).1 (f6 12 (by decide)).1 (f6 13 (by decide)).1 (f6 15 (by decide)).1 (mid_gt hm hg0)) (fun z => hn_0 z)
  refine Z_istore_n (L' := [_, _, _, _, _, _, _]) (n := 10) dX3_building_9 rfl (by decide) rfl rfl ?_
  refine Z_iconst (n := 11) dX3_building_10 rfl (by decide) ?_
  refine Z_istore (L' := [_, _, _, _, _, _, _]) (n := 13) dX3_building_11 rfl (by decide) rfl rfl ?_
  have lp13 : ∀ (N13 : Nat) (g : Int) (M13 : zM) (J13 : zJ), ((M (b + 3) o + 1 - g).toNat) < N13 → (J13 = J) → (0 ≤ g) → (g ≤ M (b + 3) o + 1) → (gtI M0 M13 E (gF (M (b + 1)) (fun g c => M (b + 2) (3 * g + c)) (M 4)) (hnd L (M (b + 3) o) g)) → (M13 14 = L) → (M13 0 7 = M 0 7) → (∀ k : Int, 0 ≤ k → k < g → ¬ L k = -1 → okP M0 (EH E (gF (M (b + 1)) (fun g c => M (b + 2) (3 * g + c)) (M 4)) (hnd L (M (b + 3) o) k)) ((gF (M (b + 1)) (fun g c => M (b + 2) (3 * g + c)) (M 4)) k)) → (M13 15 = M 15) → TZ G mX3_building (tl_rm 13 0 0) 0 0 kStep M J 13 [some (vR 0), some (vR b), some (vI o), some (vI (M (b + 3) o)), some (vI g), none, none] [] F1 M13 J13 (ZM G (zPost G kStep F1 M J (qI (fun x M' J' => J' = J ∧ (-1 ≤ x ∧ x ≤ 251) ∧ kpQ M x M' ∧ bdX M0 E (M (b + 1)) (fun g c => M (b + 2) (3 * g + c)) (M 4) (M (b + 3) o) x M'))) 0 0) := by
    intro N13
    induction N13 with
    | zero => intro g M13 J13 hN; omega
    | succ N13 ih13 =>
      intro g M13 J13 hN13 i13_0 i13_1 i13_2 i13_3 i13_4 i13_5 i13_6 i13_7
      refine Z_iload (n := 15) dX3_building_13 rfl rfl ?_
      refine Z_iload_n (n := 16) dX3_building_15 rfl rfl ?_
      refine Z_icmp_gt (n := 19) (t := 122) dX3_building_16 rfl (by decide) (fun c16 => ?_) (fun c16 => ?_)
      · refine Z_fr (fun fr13 => ?_)
        have eg : g = M (b + 3) o + 1 := by omega
        rw [eg] at i13_3 i13_6
        have ge := gt_H i13_3 (fun z => (hn_end ls6 (by omega) (by omega) z).symm)
        refine Z_aload_n (n := 123) dX3_building_122 rfl rfl ?_
        refine Z_aload_n (n := 124) dX3_building_123 rfl rfl ?_
        refine Z_getA (n := 127) dX3_building_124 rfl ffX3_33 (by first | rfl | exact nS0 hb) (by first | rfl | exact nS0 hb) ?_
        refine Z_iload_n (n := 128) dX3_building_127 rfl rfl ?_
        refine Z_iald (n := 129) dX3_building_128 rfl (by first | rfl | exact nS0 hb) rfl (by first | decide | assumption) (by omega) (by omega) (fun r128 s128 => ?_)
        refine Z_callVi (n := 132) [_] _ dX3_building_129 rfl cwX3_149 rfl rfl (by first | rfl | exact nS0 hb) (Nat.le_of_ble_eq_true rfl) (by refine ⟨?_, ?_, ?_, ?_⟩ <;> exact Nat.le_of_ble_eq_true rfl) (fun a h => by unfold kStep at h; unfold kKeep; omega) (zX3_keep_f  (by omega) (by omega) (by omega)) ?_
        intro x129 M129 J129 z129 f129 q129
        obtain ⟨e129_1, h129, kp129⟩ := q129
        replace e129_1 := e129_1.symm; subst e129_1
        refine Z_istore (L' := [_, _, _, _, _, _, _]) (n := 134) dX3_building_132 rfl (by decide) rfl rfl ?_
        refine Z_aload_n (n := 135) dX3_building_134 rfl rfl ?_
        refine Z_getA (n := 138) dX3_building_135 rfl ffX3_33 (by first | rfl | exact nS0 hb) (by first | rfl | exact nS0 hb) ?_
        refine Z_iload_n (n := 139) dX3_building_138 rfl rfl ?_
        refine Z_iconst (n := 140) dX3_building_139 rfl (by decide) ?_
        refine Z_iast (n := 141) dX3_building_140 rfl (by first | rfl | exact nS0 hb) rfl (by first | decide | assumption) (by omega) (by omega) (by first | assumption | omega | decide) (by first | assumption | omega | decide) (by decide) ?_
        refine Z_iload (n := 143) dX3_building_141 rfl rfl ?_
        refine Z_iret dX3_building_143 rfl ?_
        have hn13 := ((ge.2.2.2.2.1 (M (b + 3) o) (by omega) (by omega)).resolve_right (fun t => t.1 rfl)).2.1
        obtain ⟨-, ek⟩ := kp129.resolve_left (fun z => hn13 z.1)
        obtain ⟨r1, r2, r3, r4, r5⟩ := gt_kp hb0 ge (by omega) (by omega) (by omega) ek rfl
        rw [h129]
        have w07 : uz M129 13 (M (b + 3) o) (-1) 0 7 = M 0 7 + 1 := by rw [uz_oo (by decide), ek, uz_s]; omega
        have w15 : uz M129 13 (M (b + 3) o) (-1) 15 = updI (M 15) (M 0 7) (M13 13 (M (b + 3) o)) := by rw [uz_o (by decide), ek, uz_o (by decide), uz_fn, i13_5, i13_7]
        exact ⟨by assumption, by omega, ⟨by omega, fun k hk => by rw [w15, updI_n (by omega)], fun _ => ⟨w07, by rw [w15, updI_s]⟩⟩, L, ls6, Or.inr ⟨r3, fun k a b c => i13_6 k a (by omega) c, r1, ⟨r2, r4⟩, r5⟩⟩
      · refine Z_fr (fun fr13 => ?_)
        have hN13 : netOK M13 b := netOK_fr hN (fr13 b (by unfold kStep; omega)).1 (fr13 (b + 1) (by unfold kStep; omega)).1 (fr13 (b + 2) (by unfold kStep; omega)).1 (fr13 (b + 3) (by unfold kStep; omega)).1
        have hb4 : M13 b 4 = M b 4 := congrFun (fr13 b (by unfold kStep; omega)).1 4
        have hO13 : ordOK M13 := ordOK_fr hO (fr13 4 (by decide)).1
        have hH13 : ∀ x, hnd L (M (b + 3) o) g x → 0 ≤ x ∧ x < 40 := fun x hx => by have := hx.1; omega
        have md13 := gt_mid hb0 i13_3 hH13
        have no13 := mid_no md13
        obtain ⟨S13, hS13, hR13⟩ := md13.1
        refine Z_aload_n (n := 20) dX3_building_19 rfl rfl ?_
        refine Z_getA (n := 23) dX3_building_20 rfl ffX3_36 (by first | rfl | exact nS0 hb) (by first | rfl | exact nS0 hb) ?_
        refine Z_iload (n := 25) dX3_building_23 rfl rfl ?_
        refine Z_iald (n := 26) dX3_building_25 rfl (by first | rfl | exact nS0 hb) rfl (by first | decide | assumption) (by omega) (by omega) (fun r25 s25 => ?_)
        refine Z_iconst (n := 27) dX3_building_26 rfl (by decide) ?_
        refine Z_icmp_ne (n := 30) (t := 33) dX3_building_27 rfl (by decide) (fun c27 => ?_) (fun c27 => ?_)
        · have hkL : ¬ L g = -1 := by rw [← i13_4]; exact c27
          refine Z_aload_n (n := 34) dX3_building_33 rfl rfl ?_
          refine Z_iload (n := 36) dX3_building_34 rfl rfl ?_
          refine Z_callVi (n := 39) [_] _ dX3_building_36 rfl cwX3_231 rfl rfl (by first | rfl | exact nS0 hb) (Nat.le_of_ble_eq_true rfl) (by refine ⟨?_, ?_, ?_, ?_⟩ <;> exact Nat.le_of_ble_eq_true rfl) (fun _ _ => trivial) (zX0_kindOf  (by first | assumption | omega | decide) (by omega) (by omega)) ?_
          intro x36 M36 J36 z36 f36 q36
          obtain ⟨e36_1, e36_2, h36⟩ := q36
          replace e36_1 := e36_1.symm; subst e36_1
          replace e36_2 := e36_2.symm; subst e36_2
          refine Z_istore (L' := [_, _, _, _, _, _, _]) (n := 41) dX3_building_39 rfl (by decide) rfl rfl ?_
          have ct90 : ∀ (x : Int) (M90 : zM) (J90 : zJ), (J90 = J) → (stQ M13 ((gF (M (b + 1)) (fun g c => M (b + 2) (3 * g + c)) (M 4)) g) x M90) → (M90 12 = M13 12) → (M90 13 = M13 13) → (M90 14 = M13 14) → (M90 15 = M13 15) → (-1 ≤ x ∧ x ≤ 251) → TZ G mX3_building (tl_rm 13 0 0) 0 0 kStep M J 90 [some (vR 0), some (vR b), some (vI o), some (vI (M (b + 3) o)), some (vI g), some (vI x36), none] [vI x] F1 M90 J90 (ZM G (zPost G kStep F1 M J (qI (fun x M' J' => J' = J ∧ (-1 ≤ x ∧ x ≤ 251) ∧ kpQ M x M' ∧ bdX M0 E (M (b + 1)) (fun g c => M (b + 2) (3 * g + c)) (M 4) (M (b + 3) o) x M'))) 0 0) := by
            intro x M90 J90 i90_0 i90_1 i90_2 i90_3 i90_4 i90_5 i90_6
            obtain ⟨gs, Sm, hSm, hRm, hxm⟩ := gt_st hb0 i13_3 hH13 i90_1 i90_2 i90_3 i90_5
            refine Z_istore (L' := [_, _, _, _, _, _, _]) (n := 92) dX3_building_90 rfl (by decide) rfl rfl ?_
            refine Z_iload (n := 94) dX3_building_92 rfl rfl ?_
            refine Z_iconst (n := 95) dX3_building_94 rfl (by decide) ?_
            refine Z_icmp_ne (n := 98) (t := 100) dX3_building_95 rfl (by decide) (fun c95 => ?_) (fun c95 => ?_)
            · refine Z_aload_n (n := 101) dX3_building_100 rfl rfl ?_
              refine Z_getA (n := 104) dX3_building_101 rfl ffX3_33 (by first | rfl | exact nS0 hb) (by first | rfl | exact nS0 hb) ?_
              refine Z_iload (n := 106) dX3_building_104 rfl rfl ?_
              refine Z_iload (n := 108) dX3_building_106 rfl rfl ?_
              refine Z_iast (n := 109) dX3_building_108 rfl (by first | rfl | exact nS0 hb) rfl (by first | decide | assumption) (by omega) (by omega) (by first | assumption | omega | decide) (by first | assumption | omega | decide) (by decide) ?_
              refine Z_nm (fun M108 e108 => ?_)
              obtain ⟨-, okm, dm, gm⟩ := gs.resolve_left (fun z => by omega)
              have ga := gt_add gm hSm hRm (hxm.resolve_left (by omega)) dm (by omega) (by omega) okm e108
              have o108 : ∀ a : Nat, ¬ a = 13 → M108 a = M90 a := fun a ha => by rw [e108]; exact uz_o ha
              clear e108
              refine Z_fr (fun fr108 => ?_)
              have hN108 : netOK M108 b := netOK_fr hN (fr108 b (by unfold kStep; omega)).1 (fr108 (b + 1) (by unfold kStep; omega)).1 (fr108 (b + 2) (by unfold kStep; omega)).1 (fr108 (b + 3) (by unfold kStep; omega)).1
              have hb4b : M108 b 4 = M b 4 := congrFun (fr108 b (by unfold kStep; omega)).1 4
              refine Z_aload_n (n := 110) dX3_building_109 rfl rfl ?_
              refine Z_aload_n (n := 111) dX3_building_110 rfl rfl ?_
              refine Z_iload (n := 113) dX3_building_111 rfl rfl ?_
              refine Z_callVv (n := 116) [_, _] _ dX3_building_113 rfl cwX3_241 rfl rfl (by first | rfl | exact nS0 hb) (Nat.le_of_ble_eq_true rfl) (by refine ⟨?_, ?_, ?_, ?_⟩ <;> exact Nat.le_of_ble_eq_true rfl) (fun a h => by unfold kStep at h; unfold k13; omega) (zX3_letGoBehind_f  (by first | assumption | omega | decide) (by exact hN108) (by omega) (by omega)) ?_
              intro M113 J113 f113 q113
              obtain ⟨e113_1, lg113⟩ := q113
              replace e113_1 := e113_1.symm; subst e113_1
              have e14 : M108 14 = L := (o108 14 (by decide)).trans (i90_4.trans i13_4)
              rw [e14, (fr108 (b + 1) (by unfold kStep; omega)).1, (fr108 (b + 2) (by unfold kStep; omega)).1] at lg113
              have gl := gt_let (D := fun z => isop (M (b + 1)) (fun g c => M (b + 2) (3 * g + c)) g z ∧ L z = g) ga (fun a ha => (f113 a ha).1) lg113
              have n3 : gtI M0 M113 E (gF (M (b + 1)) (fun g c => M (b + 2) (3 * g + c)) (M 4)) (hnd L (M (b + 3) o) (g + 1)) := gt_H gl (hn_step ls6 (by omega) (by omega) (by omega) hkL (fun z hz => by
                obtain ⟨c, cb, hz⟩ := hz
                have w := (hN.1 g (by omega) (by omega)).1 c cb.1 cb.2
                rw [← hz]
                exact w.2))
              have n4 : M113 14 = L := ((f113 14 (by decide)).1).trans e14
              have n5 : M113 0 7 = M 0 7 := (congrFun (f113 0 (by decide)).1 7).trans ((congrFun (o108 0 (by decide)) 7).trans ((i90_1.2.2.2.1).trans i13_5))
              have n7 : M113 15 = M 15 := ((f113 15 (by decide)).1).trans ((o108 15 (by decide)).trans (i90_5.trans i13_7))
              have n6 : ∀ k : Int, 0 ≤ k → k < g + 1 → ¬ L k = -1 → okP M0 (EH E (gF (M (b + 1)) (fun g c => M (b + 2) (3 * g + c)) (M 4)) (hnd L (M (b + 3) o) k)) ((gF (M (b + 1)) (fun g c => M (b + 2) (3 * g + c)) (M 4)) k) := fun k a b c => by
                by_cases e : k = g
                · rw [e]; exact okm
                · exact i13_6 k a (by omega) c
              refine Z_iinc (L' := [_, _, _, _, _, _, _]) (n := 119) dX3_building_116 rfl rfl (by decide) rfl rfl (by omega) rfl ?_
              refine Z_goto (t := 13) dX3_building_119 (by decide) ?_
              refine Z_loc (L' := [some _, some _, some _, some _, some _, none, none]) (lsub_same (lsub_same (lsub_same (lsub_same (lsub_same (lsub_none (lsub_none lsub_nil))))))) ?_
              exact ih13 _ _ _ (by omega) (by assumption) (by first | assumption | omega | decide) (by first | assumption | omega | decide) (by exact n3) (by exact n4) (by exact n5) (by exact n6) (by exact n7)
            · refine Z_iconst (n := 99) dX3_building_98 rfl (by decide) ?_
              refine Z_iret dX3_building_99 rfl ?_
              obtain ⟨-, nok, mdx⟩ := gs.resolve_right (fun z => z.1 (by omega))
              have h07 : M90 0 7 = M 0 7 := (i90_1.2.2.2.1).trans i13_5
              exact ⟨i90_0, by omega, ⟨by omega, fun k _ => by rw [i90_5, i13_7], fun t => absurd rfl t⟩, L, ls6, Or.inl ⟨rfl, fun t => nok (t g (by omega) (by omega) hkL), _, mdx⟩⟩
          refine Z_rg (b + 1) g (nT1 hb) (fun k1 k1b => ?_)
          refine Z_iload (n := 43) dX3_building_41 rfl rfl ?_
          refine Z_if_ne (n := 46) (t := 60) dX3_building_43 rfl (by decide) (fun c43 => ?_) (fun c43 => ?_)
          · refine Z_aload_n (n := 61) dX3_building_60 rfl rfl ?_
            refine Z_iload (n := 63) dX3_building_61 rfl rfl ?_
            refine Z_aload_n (n := 64) dX3_building_63 rfl rfl ?_
            refine Z_aload_n (n := 65) dX3_building_64 rfl rfl ?_
            refine Z_iload (n := 67) dX3_building_65 rfl rfl ?_
            refine Z_iconst (n := 68) dX3_building_67 rfl (by decide) ?_
            refine Z_callVi (n := 71) [_, _, _] _ dX3_building_68 rfl cwX3_237 rfl rfl (by first | rfl | exact nS0 hb) (Nat.le_of_ble_eq_true rfl) (by refine ⟨?_, ?_, ?_, ?_⟩ <;> exact Nat.le_of_ble_eq_true rfl) (fun _ _ => trivial) (zX3_madeFor_f  (by first | assumption | omega | decide) (by assumption) (by omega) (by omega) (by omega) (by omega)) ?_
            intro x68 M68 J68 z68 f68 q68
            obtain ⟨e68_1, e68_2, h68⟩ := q68
            replace e68_1 := e68_1.symm; subst e68_1
            replace e68_2 := e68_2.symm; subst e68_2
            refine Z_aload_n (n := 72) dX3_building_71 rfl rfl ?_
            refine Z_aload_n (n := 73) dX3_building_72 rfl rfl ?_
            refine Z_iload (n := 75) dX3_building_73 rfl rfl ?_
            refine Z_iconst (n := 76) dX3_building_75 rfl (by decide) ?_
            refine Z_callVi (n := 79) [_, _, _] _ dX3_building_76 rfl cwX3_237 rfl rfl (by first | rfl | exact nS0 hb) (Nat.le_of_ble_eq_true rfl) (by refine ⟨?_, ?_, ?_, ?_⟩ <;> exact Nat.le_of_ble_eq_true rfl) (fun _ _ => trivial) (zX3_madeFor_f  (by first | assumption | omega | decide) (by assumption) (by omega) (by omega) (by omega) (by omega)) ?_
            intro x76 M76 J76 z76 f76 q76
            obtain ⟨e76_1, e76_2, h76⟩ := q76
            replace e76_1 := e76_1.symm; subst e76_1
            replace e76_2 := e76_2.symm; subst e76_2
            refine Z_aload_n (n := 80) dX3_building_79 rfl rfl ?_
            refine Z_aload_n (n := 81) dX3_building_80 rfl rfl ?_
            refine Z_iload (n := 83) dX3_building_81 rfl rfl ?_
            refine Z_iconst (n := 84) dX3_building_83 rfl (by decide) ?_
            refine Z_callVi (n := 87) [_, _, _] _ dX3_building_84 rfl cwX3_237 rfl rfl (by first | rfl | exact nS0 hb) (Nat.le_of_ble_eq_true rfl) (by refine ⟨?_, ?_, ?_, ?_⟩ <;> exact Nat.le_of_ble_eq_true rfl) (fun _ _ => trivial) (zX3_madeFor_f  (by first | assumption | omega | decide) (by assumption) (by omega) (by omega) (by omega) (by omega)) ?_
            intro x84 M84 J84 z84 f84 q84
            obtain ⟨e84_1, e84_2, h84⟩ := q84
            replace e84_1 := e84_1.symm; subst e84_1
            replace e84_2 := e84_2.symm; subst e84_2
            have op68 := mf_op (x := x68) (d := M (b + 2) (3 * g + 0)) (n := opF (M (b + 1) g)) i13_3 (fun q => by
              have z := (hN.1 g (by omega) (by omega)).1 0 (by omega) q
              exact ⟨lnS_op ls6 (by omega) (by omega) hkL z.1 z.2 ⟨0, ⟨by omega, q⟩, rfl⟩, z.1, by omega⟩) (by rw [h68, (fr13 (b + 1) (by unfold kStep; omega)).1, (fr13 (b + 2) (by unfold kStep; omega)).1])
            have op76 := mf_op (x := x76) (d := M (b + 2) (3 * g + 1)) (n := opF (M (b + 1) g)) i13_3 (fun q => by
              have z := (hN.1 g (by omega) (by omega)).1 1 (by omega) q
              exact ⟨lnS_op ls6 (by omega) (by omega) hkL z.1 z.2 ⟨1, ⟨by omega, q⟩, rfl⟩, z.1, by omega⟩) (by rw [h76, (fr13 (b + 1) (by unfold kStep; omega)).1, (fr13 (b + 2) (by unfold kStep; omega)).1])
            have op84 := mf_op (x := x84) (d := M (b + 2) (3 * g + 2)) (n := opF (M (b + 1) g)) i13_3 (fun q => by
              have z := (hN.1 g (by omega) (by omega)).1 2 (by omega) q
              exact ⟨lnS_op ls6 (by omega) (by omega) hkL z.1 z.2 ⟨2, ⟨by omega, q⟩, rfl⟩, z.1, by omega⟩) (by rw [h84, (fr13 (b + 1) (by unfold kStep; omega)).1, (fr13 (b + 2) (by unfold kStep; omega)).1])
            refine Z_callVi (n := 90) [_, _, _, _] _ dX3_building_87 rfl cwX3_142 rfl rfl (by first | rfl | exact nS0 hb) (Nat.le_of_ble_eq_true rfl) (by refine ⟨?_, ?_, ?_, ?_⟩ <;> exact Nat.le_of_ble_eq_true rfl) (fun a h => by unfold kStep at h; unfold kSt1; omega) (zX3_kindStep_f  (by omega) (by omega) (by exact Or.inr op68.2.1) (by exact Or.inr op76.2.1) (by exact Or.inr op84.2.1) (by exact hS13) (by exact hR13) (by exact no13)) ?_
            intro x87 M87 J87 z87 f87 q87
            obtain ⟨e87_1, sq87⟩ := q87
            replace e87_1 := e87_1.symm; subst e87_1
            have sqk := (sq87.resolve_left (fun z => by have a1 := op68.1; have a2 := op76.1; have a3 := op84.1; omega)).2
            have s90 : stQ M13 ((gF (M (b + 1)) (fun g c => M (b + 2) (3 * g + c)) (M 4)) g) x87 M87 := by
              have e : (gF (M (b + 1)) (fun g c => M (b + 2) (3 * g + c)) (M 4)) g = fun r => tbl (tabF x36) (den M13 x68 r) (den M13 x76 r) (den M13 x84 r) := by
                rw [gF_eq (m := M b 4) (fun q a b c c0 c1 => (hN.1 q a b).1 c c0 c1) (by omega) (by omega)]
                unfold gst
                rw [if_neg (show ¬ M (b + 1) g = 0 by rw [← (fr13 (b + 1) (by unfold kStep; omega)).1, ← h36]; omega)]
                funext r
                rw [op68.2.2 r, op76.2.2 r, op84.2.2 r, h36, (fr13 (b + 1) (by unfold kStep; omega)).1]
              rw [e]
              exact sqk
            have t12 := (f87 12 (by decide)).1
            have t13 := (f87 13 (by decide)).1
            have t14 := (f87 14 (by decide)).1
            have t15 := (f87 15 (by decide)).1
            have t16 : -1 ≤ x87 ∧ x87 ≤ 251 := by
              obtain ⟨S, hS, -, hx⟩ := sqk.1
              rcases hx with z | z
              · omega
              · have := okN_in hS.1 z; omega
            refine Z_loc (L' := [some _, some _, some _, some _, some _, some _, none]) (lsub_same (lsub_same (lsub_same (lsub_same (lsub_same (lsub_same (lsub_none lsub_nil))))))) ?_
            exact ct90 _ _ _ (by first | rfl | assumption) (by exact s90) (by exact t12) (by exact t13) (by exact t14) (by exact t15) (by exact t16)
          · refine Z_aload_n (n := 47) dX3_building_46 rfl rfl ?_
            refine Z_aload_n (n := 48) dX3_building_47 rfl rfl ?_
            refine Z_iload (n := 50) dX3_building_48 rfl rfl ?_
            refine Z_iconst (n := 51) dX3_building_50 rfl (by decide) ?_
            have hov := (hN13.1 g (by omega) (by omega)).2 (by omega)
            refine Z_callVi (n := 54) [_, _] _ dX3_building_51 rfl cwX3_234 rfl rfl (by first | rfl | exact nS0 hb) (Nat.le_of_ble_eq_true rfl) (by refine ⟨?_, ?_, ?_, ?_⟩ <;> exact Nat.le_of_ble_eq_true rfl) (fun _ _ => trivial) (zX0_operand  (by first | assumption | omega | decide) (by omega) (by omega) (by omega) (by omega)) ?_
            intro x51 M51 J51 z51 f51 q51
            obtain ⟨e51_1, e51_2, h51⟩ := q51
            replace e51_1 := e51_1.symm; subst e51_1
            replace e51_2 := e51_2.symm; subst e51_2
            rw [show 3 * g + 0 = 3 * g by omega] at h51
            rw [← h51] at hov
            refine Z_callVi (n := 57) [_] _ dX3_building_54 rfl cwX3_136 rfl rfl (by first | rfl | exact nS0 hb) (Nat.le_of_ble_eq_true rfl) (by refine ⟨?_, ?_, ?_, ?_⟩ <;> exact Nat.le_of_ble_eq_true rfl) (fun a h => by unfold kStep at h; unfold kSt1; omega) (zX3_variableStep_f  (by omega) (by omega) (by exact hO13) (by exact hS13) (by exact hR13) (by exact no13)) ?_
            intro x54 M54 J54 z54 f54 q54
            obtain ⟨e54_1, sq54⟩ := q54
            replace e54_1 := e54_1.symm; subst e54_1
            have s90 : stQ M13 ((gF (M (b + 1)) (fun g c => M (b + 2) (3 * g + c)) (M 4)) g) x54 M54 := by
              have e : (gF (M (b + 1)) (fun g c => M (b + 2) (3 * g + c)) (M 4)) g = fun r => bz (r (M13 4 x51)) := by
                rw [gF_eq (m := M b 4) (fun q a b c c0 c1 => (hN.1 q a b).1 c c0 c1) (by omega) (by omega)]
                unfold gst
                rw [if_pos (show M (b + 1) g = 0 by rw [← (fr13 (b + 1) (by unfold kStep; omega)).1, ← h36]; omega), h51, (fr13 4 (by decide)).1, (fr13 (b + 2) (by unfold kStep; omega)).1]
                try simp only [Int.add_zero]
              rw [e]
              exact sq54
            have t12 := (f54 12 (by decide)).1
            have t13 := (f54 13 (by decide)).1
            have t14 := (f54 14 (by decide)).1
            have t15 := (f54 15 (by decide)).1
            have t16 : -1 ≤ x54 ∧ x54 ≤ 251 := by
              obtain ⟨S, hS, -, hx⟩ := sq54.1
              rcases hx with z | z
              · omega
              · have := okN_in hS.1 z; omega
            refine Z_goto (t := 90) dX3_building_57 (by decide) ?_
            refine Z_loc (L' := [some _, some _, some _, some _, some _, some _, none]) (lsub_same (lsub_same (lsub_same (lsub_same (lsub_same (lsub_same (lsub_none lsub_nil))))))) ?_
            exact ct90 _ _ _ (by first | rfl | assumption) (by exact s90) (by exact t12) (by exact t13) (by exact t14) (by exact t15) (by exact t16)
        · have hkL : L g = -1 := by rw [← i13_4]; exact c27
          have n3 := gt_H i13_3 (hn_skip ls6 (by omega) (by omega) hkL)
          have n4 := i13_4
          have n5 := i13_5
          have n7 := i13_7
          have n6 : ∀ k : Int, 0 ≤ k → k < g + 1 → ¬ L k = -1 → okP M0 (EH E (gF (M (b + 1)) (fun g c => M (b + 2) (3 * g + c)) (M 4)) (hnd L (M (b + 3) o) k)) ((gF (M (b + 1)) (fun g c => M (b + 2) (3 * g + c)) (M 4)) k) := fun k a b c => by
            by_cases e : k = g
            · exact absurd (by rw [e]; exact hkL) c
            · exact i13_6 k a (by omega) c
          refine Z_goto (t := 116) dX3_building_30 (by decide) ?_
          refine Z_iinc (L' := [_, _, _, _, _, _, _]) (n := 119) dX3_building_116 rfl rfl (by decide) rfl rfl (by omega) rfl ?_
          refine Z_goto (t := 13) dX3_building_119 (by decide) ?_
          refine Z_loc (L' := [some _, some _, some _, some _, some _, none, none]) (lsub_same (lsub_same (lsub_same (lsub_same (lsub_same (lsub_none (lsub_none lsub_nil))))))) ?_
          exact ih13 _ _ _ (by omega) (by assumption) (by first | assumption | omega | decide) (by first | assumption | omega | decide) (by exact n3) (by exact n4) (by exact n5) (by exact n6) (by exact n7)
  refine Z_loc (L' := [some _, some _, some _, some _, some _, none, none]) (lsub_same (lsub_same (lsub_same (lsub_same (lsub_same (lsub_none (lsub_none lsub_nil))))))) ?_
  exact lp13 _ _ _ _ (Nat.lt_succ_self _) (by rfl) (by first | assumption | omega | decide) (by first | assumption | omega | decide) (by exact gt6) (by exact hL.symm) (by exact congrFun (f6 0 (by decide)).1 7) (by exact fun k a b => by omega) (by exact (f6 15 (by decide)).1)
