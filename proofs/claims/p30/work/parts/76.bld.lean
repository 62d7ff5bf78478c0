section
/-! ===== the class: needs, building ===== -/
set_option maxRecDepth 20000 in
theorem zX0_noteNeedsOf_f {G : tl_G} {M : zM} {J : zJ} {b : Nat} {g t : Int} (hb : NetAt b) (hN : netOK M b) (h0 : 0 ≤ g) (h1 : g < M b 4) (hP : lnP (M (b + 1)) (fun g c => M (b + 2) (3 * g + c)) t (M 14) g 0) (hn : ¬ M 14 g = -1) (hg : g ≤ t) (ht : t < 40) : ZN G yX0_noteNeedsOf mX0_noteNeedsOf 1 kLN [vR b, vI g, vR 14] F1 M J (qV (fun M' J' => J' = J ∧ lnP (M (b + 1)) (fun g c => M (b + 2) (3 * g + c)) t (M' 14) g (opF (M (b + 1) g)))) := by
  refine ZN_of (L := [_, _, _, _, _]) (by decide) rfl rfl (Nat.le_of_ble_eq_true rfl) rfl (fun hav => ?_)
  refine Z_rg b 4 (nTg hb) (fun g4 g4b => ?_)
  have hop3 := opF_in (M (b + 1) g)
  refine Z_iconst (n := 1) dX0_noteNeedsOf_0 rfl (by decide) ?_
  refine Z_istore_n (L' := [_, _, _, _, _]) (n := 2) dX0_noteNeedsOf_1 rfl (by decide) rfl rfl ?_
  have lp2 : ∀ (N2 : Nat) (i : Int) (M2 : zM) (J2 : zJ), ((3 - i).toNat) < N2 → (J2 = J) → (0 ≤ i) → (i ≤ opF (M (b + 1) g)) → (lnP (M (b + 1)) (fun g c => M (b + 2) (3 * g + c)) t (M2 14) g i) → (¬ M2 14 g = -1) → TZ G mX0_noteNeedsOf (tl_rm 1 0 0) 0 0 kLN M J 2 [some (vR b), some (vI g), some (vR 14), some (vI i), none] [] F1 M2 J2 (ZM G (zPost G kLN F1 M J (qV (fun M' J' => J' = J ∧ lnP (M (b + 1)) (fun g c => M (b + 2) (3 * g + c)) t (M' 14) g (opF (M (b + 1) g))))) 0 0) := by
    intro N2
    induction N2 with
    | zero => intro i M2 J2 hN; omega
    | succ N2 ih2 =>
      intro i M2 J2 hN2 i2_0 i2_1 i2_2 i2_3 i2_4
      refine Z_iload_n (n := 3) dX0_noteNeedsOf_2 rfl rfl ?_
      refine Z_fr (fun fr2 => ?_)
      have hk : M2 (b + 1) g = M (b + 1) g := congrFun (fr2 (b + 1) (by unfold kLN; omega)).1 g
      refine Z_getsN (i := 1) (n := 6) dX0_noteNeedsOf_3 rfl (by decide) (by decide) rfl rfl ?_
      refine Z_aload_n (n := 7) dX0_noteNeedsOf_6 rfl rfl ?_
      refine Z_getA (n := 10) dX0_noteNeedsOf_7 rfl ffX0_9 (by first | exact nS0 hb | exact nS1 hb | exact nS2 hb | exact nS3 hb | exact nS4 hb | exact nP0 hb | exact nP1 hb | exact nP2 hb | exact nP3 hb | rfl) (by first | exact nS0 hb | exact nS1 hb | exact nS2 hb | exact nS3 hb | exact nS4 hb | exact nP0 hb | exact nP1 hb | exact nP2 hb | exact nP3 hb | rfl) ?_
      refine Z_iload_n (n := 11) dX0_noteNeedsOf_10 rfl rfl ?_
      refine Z_iald (n := 12) dX0_noteNeedsOf_11 rfl (by first | exact nS0 hb | exact nS1 hb | exact nS2 hb | exact nS3 hb | exact nS4 hb | exact nP0 hb | exact nP1 hb | exact nP2 hb | exact nP3 hb | rfl) (by first | exact nTg hb | exact nTo hb | exact nT1 hb | exact nT2 hb | exact nT3 hb | exact nT4 hb | rfl) (by first | decide | assumption) (by omega) (by omega) (fun r11 s11 => ?_)
      refine Z_ialdS1 (n := 13) dX0_noteNeedsOf_12 rfl (by omega) (by omega) (fun r12 s12 => ?_)
      refine Z_icmp_ge (n := 16) (t := 43) dX0_noteNeedsOf_13 rfl (by decide) (fun c13 => ?_) (fun c13 => ?_)
      · refine Z_vret dX0_noteNeedsOf_43 rfl ?_
        rw [hk] at c13
        refine ⟨i2_0, ?_⟩
        rw [show opF (M (b + 1) g) = i by omega]
        exact i2_3
      · refine Z_aload_n (n := 17) dX0_noteNeedsOf_16 rfl rfl ?_
        refine Z_iload_n (n := 18) dX0_noteNeedsOf_17 rfl rfl ?_
        refine Z_iload_n (n := 19) dX0_noteNeedsOf_18 rfl rfl ?_
        refine Z_callVi (n := 22) [_, _] _ dX0_noteNeedsOf_19 rfl cwX0_42 rfl rfl (by first | exact nS0 hb | exact nS1 hb | exact nS2 hb | exact nS3 hb | exact nS4 hb | exact nP0 hb | exact nP1 hb | exact nP2 hb | exact nP3 hb | rfl) (Nat.le_of_ble_eq_true rfl) (by refine ⟨?_, ?_, ?_, ?_⟩ <;> exact Nat.le_of_ble_eq_true rfl) (fun _ _ => trivial) (zX0_operand  (by first | assumption | omega | decide) (by first | assumption | omega | decide) (by first | assumption | omega | decide) (by first | assumption | omega | decide) (by first | assumption | omega | decide)) ?_
        intro x19 M19 J19 z19 f19 q19
        obtain ⟨e19_1, e19_2, h19⟩ := q19
        replace e19_1 := e19_1.symm; subst e19_1
        replace e19_2 := e19_2.symm; subst e19_2
        rw [congrFun (fr2 (b + 2) (by unfold kLN; omega)).1 _] at h19
        have hi : i < opF (M (b + 1) g) := by rw [← hk]; omega
        have hop := (hN.1 g h0 h1).1 i (by omega) hi
        rw [← h19] at hop
        refine Z_istore (L' := [_, _, _, _, _]) (n := 24) dX0_noteNeedsOf_22 rfl (by decide) rfl rfl ?_
        refine Z_aload_n (n := 25) dX0_noteNeedsOf_24 rfl rfl ?_
        refine Z_iload (n := 27) dX0_noteNeedsOf_25 rfl rfl ?_
        refine Z_iald (n := 28) dX0_noteNeedsOf_27 rfl (by first | exact nS0 hb | exact nS1 hb | exact nS2 hb | exact nS3 hb | exact nS4 hb | exact nP0 hb | exact nP1 hb | exact nP2 hb | exact nP3 hb | rfl) (by first | exact nTg hb | exact nTo hb | exact nT1 hb | exact nT2 hb | exact nT3 hb | exact nT4 hb | rfl) (by first | decide | assumption) (by omega) (by omega) (fun r27 s27 => ?_)
        refine Z_iconst (n := 29) dX0_noteNeedsOf_28 rfl (by decide) ?_
        refine Z_icmp_ne (n := 32) (t := 37) dX0_noteNeedsOf_29 rfl (by decide) (fun c29 => ?_) (fun c29 => ?_)
        · have nx3 : lnP (M (b + 1)) (fun g c => M (b + 2) (3 * g + c)) t (M2 14) g (i + 1) := lnP_st i2_3 i2_4 hg (by omega) hi h19.symm hop.1 hop.2 ht (Or.inr ⟨c29, rfl⟩)
          have nx4 := i2_4
          refine Z_iinc (L' := [_, _, _, _, _]) (n := 40) dX0_noteNeedsOf_37 rfl rfl (by decide) rfl rfl (by omega) rfl ?_
          refine Z_goto (t := 2) dX0_noteNeedsOf_40 (by decide) ?_
          refine Z_loc (L' := [some _, some _, some _, some _, none]) (lsub_same (lsub_same (lsub_same (lsub_same (lsub_none lsub_nil))))) ?_
          exact ih2 _ _ _ (by omega) (by assumption) (by first | assumption | omega | decide) (by omega) (by exact nx3) (by exact nx4)
        · refine Z_aload_n (n := 33) dX0_noteNeedsOf_32 rfl rfl ?_
          refine Z_iload (n := 35) dX0_noteNeedsOf_33 rfl rfl ?_
          refine Z_iload_n (n := 36) dX0_noteNeedsOf_35 rfl rfl ?_
          refine Z_iast (n := 37) dX0_noteNeedsOf_36 rfl (by first | exact nS0 hb | exact nS1 hb | exact nS2 hb | exact nS3 hb | exact nS4 hb | exact nP0 hb | exact nP1 hb | exact nP2 hb | exact nP3 hb | rfl) (by first | exact nTg hb | exact nTo hb | exact nT1 hb | exact nT2 hb | exact nT3 hb | exact nT4 hb | rfl) (by first | decide | assumption) (by omega) (by omega) (by first | assumption | omega | decide) (by first | assumption | omega | decide) (by decide) ?_
          have nx3 : lnP (M (b + 1)) (fun g c => M (b + 2) (3 * g + c)) t (uz M2 14 x19 g 14) g (i + 1) := lnP_st i2_3 i2_4 hg (by omega) hi h19.symm hop.1 hop.2 ht (Or.inl ⟨c29, uz_fn⟩)
          have nx4 : ¬ uz M2 14 x19 g 14 g = -1 := by rw [uz_n (by omega)]; exact i2_4
          refine Z_iinc (L' := [_, _, _, _, _]) (n := 40) dX0_noteNeedsOf_37 rfl rfl (by decide) rfl rfl (by omega) rfl ?_
          refine Z_goto (t := 2) dX0_noteNeedsOf_40 (by decide) ?_
          refine Z_loc (L' := [some _, some _, some _, some _, none]) (lsub_same (lsub_same (lsub_same (lsub_same (lsub_none lsub_nil))))) ?_
          exact ih2 _ _ _ (by omega) (by assumption) (by first | assumption | omega | decide) (by omega) (by exact nx3) (by exact nx4)
  refine Z_loc (L' := [some _, some _, some _, some _, none]) (lsub_same (lsub_same (lsub_same (lsub_same (lsub_none lsub_nil))))) ?_
  exact lp2 _ _ _ _ (Nat.lt_succ_self _) (by rfl) (by first | assumption | omega | decide) (by exact (opF_in _).1) (by exact hP) (by exact hn)
set_option maxRecDepth 20000 in
theorem zX0_findNeeds_f {G : tl_G} {M : zM} {J : zJ} {b : Nat} {o : Int} (hb : NetAt b) (hN : netOK M b) (h0 : 0 ≤ o) (h1 : o < M b 5) : ZN G yX0_findNeeds mX0_findNeeds 2 kLN [vR b, vI o, vR 14] F1 M J (qI (fun x M' J' => J' = J ∧ x = M (b + 3) o ∧ lnS (M (b + 1)) (fun g c => M (b + 2) (3 * g + c)) (M (b + 3) o) (M' 14))) := by
  refine ZN_of (L := [_, _, _, _, _]) (by decide) rfl rfl (Nat.le_of_ble_eq_true rfl) rfl (fun hav => ?_)
  refine Z_rg b 5 (nTo hb) (fun g5 g5b => ?_)
  refine Z_rg b 4 (nTg hb) (fun g4 g4b => ?_)
  have ho := hN.2 o h0 h1
  refine Z_aload_n (n := 1) dX0_findNeeds_0 rfl rfl ?_
  refine Z_iconst (n := 2) dX0_findNeeds_1 rfl (by decide) ?_
  refine Z_callSv (n := 5) [_, _] _ dX0_findNeeds_2 rfl cwX0_48 rfl rfl (Nat.le_of_ble_eq_true rfl) (by refine ⟨?_, ?_, ?_, ?_⟩ <;> exact Nat.le_of_ble_eq_true rfl) (fun _ h => h) (zJ7_fill_53178  (by rfl) (by decide) (by exact fun _ => rfl) (by decide) (by decide) (by decide)) ?_
  intro M2 J2 f2 q2
  obtain ⟨e2_1, e2_2⟩ := q2
  replace e2_1 := e2_1.symm; subst e2_1
  replace e2_2 := e2_2.symm; subst e2_2
  
  refine Z_aload_n (n := 6) dX0_findNeeds_5 rfl rfl ?_
  refine Z_getA (n := 9) dX0_findNeeds_6 rfl ffX0_18 (by first | exact nS0 hb | exact nS1 hb | exact nS2 hb | exact nS3 hb | exact nS4 hb | exact nP0 hb | exact nP1 hb | exact nP2 hb | exact nP3 hb | rfl) (by first | exact nS0 hb | exact nS1 hb | exact nS2 hb | exact nS3 hb | exact nS4 hb | exact nP0 hb | exact nP1 hb | exact nP2 hb | exact nP3 hb | rfl) ?_
  refine Z_iload_n (n := 10) dX0_findNeeds_9 rfl rfl ?_
  refine Z_iald (n := 11) dX0_findNeeds_10 rfl (by first | exact nS0 hb | exact nS1 hb | exact nS2 hb | exact nS3 hb | exact nS4 hb | exact nP0 hb | exact nP1 hb | exact nP2 hb | exact nP3 hb | rfl) (by first | exact nTg hb | exact nTo hb | exact nT1 hb | exact nT2 hb | exact nT3 hb | exact nT4 hb | rfl) (by first | decide | assumption) (by omega) (by omega) (fun r10 s10 => ?_)
  rw [show fillz M 14 (40 : Nat) (-1) (b + 3) o = M (b + 3) o from congrFun (fillz_o (by omega)) o] at r10 s10 ⊢
  refine Z_istore_n (L' := [_, _, _, _, _]) (n := 12) dX0_findNeeds_11 rfl (by decide) rfl rfl ?_
  refine Z_aload_n (n := 13) dX0_findNeeds_12 rfl rfl ?_
  refine Z_iload_n (n := 14) dX0_findNeeds_13 rfl rfl ?_
  refine Z_iload_n (n := 15) dX0_findNeeds_14 rfl rfl ?_
  refine Z_iast (n := 16) dX0_findNeeds_15 rfl (by first | exact nS0 hb | exact nS1 hb | exact nS2 hb | exact nS3 hb | exact nS4 hb | exact nP0 hb | exact nP1 hb | exact nP2 hb | exact nP3 hb | rfl) (by first | exact nTg hb | exact nTo hb | exact nT1 hb | exact nT2 hb | exact nT3 hb | exact nT4 hb | rfl) (by first | decide | assumption) (by omega) (by omega) (by first | assumption | omega | decide) (by first | assumption | omega | decide) (by decide) ?_
  refine Z_iload_n (n := 17) dX0_findNeeds_16 rfl rfl ?_
  refine Z_istore (L' := [_, _, _, _, _]) (n := 19) dX0_findNeeds_17 rfl (by decide) rfl rfl ?_
  have lp19 : ∀ (N19 : Nat) (g : Int) (M19 : zM) (J19 : zJ), ((g + 1).toNat) < N19 → (J19 = J) → (-1 ≤ g) → (g ≤ M (b + 3) o) → (lnP (M (b + 1)) (fun g c => M (b + 2) (3 * g + c)) (M (b + 3) o) (M19 14) g 0) → TZ G mX0_findNeeds (tl_rm 2 0 0) 0 0 kLN M J 19 [some (vR b), some (vI o), some (vR 14), some (vI (M (b + 3) o)), some (vI g)] [] F1 M19 J19 (ZM G (zPost G kLN F1 M J (qI (fun x M' J' => J' = J ∧ x = M (b + 3) o ∧ lnS (M (b + 1)) (fun g c => M (b + 2) (3 * g + c)) (M (b + 3) o) (M' 14)))) 0 0) := by
    intro N19
    induction N19 with
    | zero => intro g M19 J19 hN; omega
    | succ N19 ih19 =>
      intro g M19 J19 hN19 i19_0 i19_1 i19_2 i19_3
      refine Z_iload (n := 21) dX0_findNeeds_19 rfl rfl ?_
      refine Z_if_lt (n := 24) (t := 45) dX0_findNeeds_21 rfl (by decide) (fun c21 => ?_) (fun c21 => ?_)
      · refine Z_iload_n (n := 46) dX0_findNeeds_45 rfl rfl ?_
        refine Z_iret dX0_findNeeds_46 rfl ?_
        refine ⟨i19_0, rfl, ?_⟩
        have q := i19_3
        rw [show g = -1 by omega] at q
        exact lnP_end q
      · refine Z_fr (fun fr19 => ?_)
        have hN19 : netOK M19 b := netOK_fr hN (fr19 b (by unfold kLN; omega)).1 (fr19 (b + 1) (by unfold kLN; omega)).1 (fr19 (b + 2) (by unfold kLN; omega)).1 (fr19 (b + 3) (by unfold kLN; omega)).1
        have hb4 : M19 b 4 = M b 4 := congrFun (fr19 b (by unfold kLN; omega)).1 4
        refine Z_aload_n (n := 25) dX0_findNeeds_24 rfl rfl ?_
        refine Z_iload (n := 27) dX0_findNeeds_25 rfl rfl ?_
        refine Z_iald (n := 28) dX0_findNeeds_27 rfl (by first | exact nS0 hb | exact nS1 hb | exact nS2 hb | exact nS3 hb | exact nS4 hb | exact nP0 hb | exact nP1 hb | exact nP2 hb | exact nP3 hb | rfl) (by first | exact nTg hb | exact nTo hb | exact nT1 hb | exact nT2 hb | exact nT3 hb | exact nT4 hb | rfl) (by first | decide | assumption) (by omega) (by omega) (fun r27 s27 => ?_)
        refine Z_iconst (n := 29) dX0_findNeeds_28 rfl (by decide) ?_
        refine Z_icmp_eq (n := 32) (t := 39) dX0_findNeeds_29 rfl (by decide) (fun c29 => ?_) (fun c29 => ?_)
        · have nx : ∀ q : Int, q = g - 1 → lnP (M (b + 1)) (fun g c => M (b + 2) (3 * g + c)) (M (b + 3) o) (M19 14) q 0 := fun q e => by rw [e]; exact lnP_dn i19_3 (Or.inl c29)
          refine Z_iinc (L' := [_, _, _, _, _]) (n := 42) dX0_findNeeds_39 rfl rfl (by decide) rfl rfl (by omega) rfl ?_
          refine Z_goto (t := 19) dX0_findNeeds_42 (by decide) ?_
          refine Z_loc (L' := [some _, some _, some _, some _, some _]) (lsub_same (lsub_same (lsub_same (lsub_same (lsub_same lsub_nil))))) ?_
          exact ih19 _ _ _ (by omega) (by assumption) (by first | assumption | omega | decide) (by first | assumption | omega | decide) (by exact nx _ (by omega))
        · refine Z_aload_n (n := 33) dX0_findNeeds_32 rfl rfl ?_
          refine Z_iload (n := 35) dX0_findNeeds_33 rfl rfl ?_
          refine Z_aload_n (n := 36) dX0_findNeeds_35 rfl rfl ?_
          have hP36 : lnP (M19 (b + 1)) (fun g c => M19 (b + 2) (3 * g + c)) (M (b + 3) o) (M19 14) g 0 := by
            rw [(fr19 (b + 1) (by unfold kLN; omega)).1, (fr19 (b + 2) (by unfold kLN; omega)).1]
            exact i19_3
          refine Z_callVv (n := 39) [_, _] _ dX0_findNeeds_36 rfl cwX0_54 rfl rfl (by first | exact nS0 hb | exact nS1 hb | exact nS2 hb | exact nS3 hb | exact nS4 hb | exact nP0 hb | exact nP1 hb | exact nP2 hb | exact nP3 hb | rfl) (Nat.le_of_ble_eq_true rfl) (by refine ⟨?_, ?_, ?_, ?_⟩ <;> exact Nat.le_of_ble_eq_true rfl) (fun _ h => h) (zX0_noteNeedsOf_f  (by first | assumption | omega | decide) (by exact hN19) (by omega) (by omega) (by exact hP36) (by exact c29) (by omega) (by omega)) ?_
          intro M36 J36 f36 q36
          obtain ⟨e36_1, np36⟩ := q36
          replace e36_1 := e36_1.symm; subst e36_1
          rw [(fr19 (b + 1) (by unfold kLN; omega)).1, (fr19 (b + 2) (by unfold kLN; omega)).1] at np36
          have nx : ∀ q : Int, q = g - 1 → lnP (M (b + 1)) (fun g c => M (b + 2) (3 * g + c)) (M (b + 3) o) (M36 14) q 0 := fun q e => by rw [e]; exact lnP_dn np36 (Or.inr (Int.le_refl _))
          refine Z_iinc (L' := [_, _, _, _, _]) (n := 42) dX0_findNeeds_39 rfl rfl (by decide) rfl rfl (by omega) rfl ?_
          refine Z_goto (t := 19) dX0_findNeeds_42 (by decide) ?_
          refine Z_loc (L' := [some _, some _, some _, some _, some _]) (lsub_same (lsub_same (lsub_same (lsub_same (lsub_same lsub_nil))))) ?_
          exact ih19 _ _ _ (by omega) (by assumption) (by first | assumption | omega | decide) (by first | assumption | omega | decide) (by exact nx _ (by omega))
  refine Z_loc (L' := [some _, some _, some _, some _, some _]) (lsub_same (lsub_same (lsub_same (lsub_same (lsub_same lsub_nil))))) ?_
  exact lp19 _ _ _ _ (Nat.lt_succ_self _) (by rfl) (by first | assumption | omega | decide) (by first | assumption | omega | decide) (by exact lnP_0 (by rw [uz_s]) (fun x a b e => by rw [uz_n e]; exact fillz_a a (by omega)))
set_option maxRecDepth 20000 in
theorem zX3_madeFor_f {G : tl_G} {M : zM} {J : zJ} {b : Nat} {g i : Int} (hb : NetAt b) (hN : netOK M b) (h0 : 0 ≤ g) (h1 : g < M b 4) (h2 : 0 ≤ i) (h3 : i < 3) : ZN G yX3_madeFor mX3_madeFor 1 kAll [vR 0, vR b, vI g, vI i] F1 M J (qI (fun x M' J' => M' = M ∧ J' = J ∧ x = (if i < opF (M (b + 1) g) then M 13 (M (b + 2) (3 * g + i)) else 0))) := by
  refine ZN_of (L := [_, _, _, _]) (by decide) rfl rfl (Nat.le_of_ble_eq_true rfl) rfl (fun hav => ?_)
  refine Z_rg b 4 (nTg hb) (fun g4 g4b => ?_)
  refine Z_iload_n (n := 1) dX3_madeFor_0 rfl rfl ?_
  refine Z_gets (i := 1) (n := 4) dX3_madeFor_1 rfl (by decide) (by decide) sfX3_245 ?_
  refine Z_aload_n (n := 5) dX3_madeFor_4 rfl rfl ?_
  refine Z_iload_n (n := 6) dX3_madeFor_5 rfl rfl ?_
  refine Z_callVi (n := 9) [_] _ dX3_madeFor_6 rfl cwX3_231 rfl rfl (by first | rfl | exact nS0 hb) (Nat.le_of_ble_eq_true rfl) (by refine ⟨?_, ?_, ?_, ?_⟩ <;> exact Nat.le_of_ble_eq_true rfl) (fun _ h => h) (zX0_kindOf  (by first | assumption | omega | decide) (by first | assumption | omega | decide) (by first | assumption | omega | decide)) ?_
  intro x6 M6 J6 z6 f6 q6
  obtain ⟨e6_1, e6_2, h6⟩ := q6
  replace e6_1 := e6_1.symm; subst e6_1
  replace e6_2 := e6_2.symm; subst e6_2
  refine Z_rg (b + 1) g (nT1 hb) (fun k1 k1b => ?_)
  refine Z_ialdS1 (n := 10) dX3_madeFor_9 rfl (by omega) (by omega) (fun r9 s9 => ?_)
  refine Z_icmp_ge (n := 13) (t := 27) dX3_madeFor_10 rfl (by decide) (fun c10 => ?_) (fun c10 => ?_)
  · refine Z_iconst (n := 28) dX3_madeFor_27 rfl (by decide) ?_
    refine Z_iret dX3_madeFor_28 rfl ?_
    refine ⟨rfl, rfl, ?_⟩
    first
      | (rw [if_pos (show i < opF (M (b + 1) g) by rw [← h6]; omega), h20])
      | (rw [if_neg (show ¬ i < opF (M (b + 1) g) by rw [← h6]; omega)])
  · refine Z_aload_n (n := 14) dX3_madeFor_13 rfl rfl ?_
    refine Z_getA (n := 17) dX3_madeFor_14 rfl ffX3_33 (by first | rfl | exact nS0 hb) (by first | rfl | exact nS0 hb) ?_
    refine Z_aload_n (n := 18) dX3_madeFor_17 rfl rfl ?_
    refine Z_iload_n (n := 19) dX3_madeFor_18 rfl rfl ?_
    refine Z_iload_n (n := 20) dX3_madeFor_19 rfl rfl ?_
    refine Z_callVi (n := 23) [_, _] _ dX3_madeFor_20 rfl cwX3_234 rfl rfl (by first | rfl | exact nS0 hb) (Nat.le_of_ble_eq_true rfl) (by refine ⟨?_, ?_, ?_, ?_⟩ <;> exact Nat.le_of_ble_eq_true rfl) (fun _ h => h) (zX0_operand  (by first | assumption | omega | decide) (by first | assumption | omega | decide) (by first | assumption | omega | decide) (by first | assumption | omega | decide) (by first | assumption | omega | decide)) ?_
    intro x20 M20 J20 z20 f20 q20
    obtain ⟨e20_1, e20_2, h20⟩ := q20
    replace e20_1 := e20_1.symm; subst e20_1
    replace e20_2 := e20_2.symm; subst e20_2
    have hop := (hN.1 g h0 h1).1 i (by omega) (by rw [← h6]; omega)
    rw [← h20] at hop
    refine Z_iald (n := 24) dX3_madeFor_23 rfl (by first | rfl | exact nS0 hb) rfl (by first | decide | assumption) (by omega) (by omega) (fun r23 s23 => ?_)
    refine Z_goto (t := 28) dX3_madeFor_24 (by decide) ?_
    refine Z_iret dX3_madeFor_28 rfl ?_
    refine ⟨rfl, rfl, ?_⟩
    first
      | (rw [if_pos (show i < opF (M (b + 1) g) by rw [← h6]; omega), h20])
      | (rw [if_neg (show ¬ i < opF (M (b + 1) g) by rw [← h6]; omega)])
def lgP (L A A' : Int → Int) (od : Int → Int → Int) (g i : Int) : Prop := ∀ z : Int, (((∃ c : Int, (0 ≤ c ∧ c < i) ∧ od g c = z) ∧ L z = g) ∧ A' z = -1) ∨ (¬ ((∃ c : Int, (0 ≤ c ∧ c < i) ∧ od g c = z) ∧ L z = g) ∧ A' z = A z)
theorem lg_0 {L A : Int → Int} {od : Int → Int → Int} {g : Int} : lgP L A A od g 0 := fun z => Or.inr ⟨fun q => by obtain ⟨⟨c, cb, -⟩, -⟩ := q; omega, rfl⟩
theorem lg_no {L A A' : Int → Int} {od : Int → Int → Int} {g i : Int} (h : lgP L A A' od g i) (hn : ¬ L (od g i) = g) : lgP L A A' od g (i + 1) := fun z => by
  rcases h z with ⟨⟨⟨c, cb, a⟩, b⟩, d⟩ | ⟨a, b⟩
  · exact Or.inl ⟨⟨⟨c, by omega, a⟩, b⟩, d⟩
  · refine Or.inr ⟨fun q => ?_, b⟩
    obtain ⟨⟨c, cb, q⟩, w⟩ := q
    by_cases e : c = i
    · rw [e] at q; rw [q] at hn; exact hn w
    · exact a ⟨⟨c, by omega, q⟩, w⟩
theorem lg_up {L A A' : Int → Int} {od : Int → Int → Int} {g i x : Int} (h : lgP L A A' od g i) (i0 : 0 ≤ i) (hx : od g i = x) (hn : L x = g) : lgP L A (updI A' x (-1)) od g (i + 1) := fun z => by
  by_cases e : z = x
  · left
    rw [e, updI_s]
    exact ⟨⟨⟨i, by omega, hx⟩, hn⟩, rfl⟩
  · rw [updI_n e]
    rcases h z with ⟨⟨⟨c, cb, a⟩, b⟩, d⟩ | ⟨a, b⟩
    · exact Or.inl ⟨⟨⟨c, by omega, a⟩, b⟩, d⟩
    · refine Or.inr ⟨fun q => ?_, b⟩
      obtain ⟨⟨c, cb, q⟩, w⟩ := q
      by_cases ec : c = i
      · rw [ec, hx] at q; exact e q.symm
      · exact a ⟨⟨c, by omega, q⟩, w⟩
set_option maxRecDepth 20000 in
theorem zX3_letGoBehind_f {G : tl_G} {M : zM} {J : zJ} {b : Nat} {g : Int} (hb : NetAt b) (hN : netOK M b) (h0 : 0 ≤ g) (h1 : g < M b 4) : ZN G yX3_letGoBehind mX3_letGoBehind 1 k13 [vR 0, vR b, vI g] F1 M J (qV (fun M' J' => J' = J ∧ ∀ z : Int, 0 ≤ z → z < 40 → (((isop (M (b + 1)) (fun g c => M (b + 2) (3 * g + c)) g z) ∧ M 14 z = g) ∧ M' 13 z = -1) ∨ (¬ (isop (M (b + 1)) (fun g c => M (b + 2) (3 * g + c)) g z ∧ M 14 z = g) ∧ M' 13 z = M 13 z))) := by
  refine ZN_of (L := [_, _, _, _, _, _]) (by decide) rfl rfl (Nat.le_of_ble_eq_true rfl) rfl (fun hav => ?_)
  refine Z_rg b 4 (nTg hb) (fun g4 g4b => ?_)
  have hop3 := opF_in (M (b + 1) g)
  refine Z_gets (i := 1) (n := 3) dX3_letGoBehind_0 rfl (by decide) (by decide) sfX3_245 ?_
  refine Z_aload_n (n := 4) dX3_letGoBehind_3 rfl rfl ?_
  refine Z_iload_n (n := 5) dX3_letGoBehind_4 rfl rfl ?_
  refine Z_callVi (n := 8) [_] _ dX3_letGoBehind_5 rfl cwX3_231 rfl rfl (by first | rfl | exact nS0 hb) (Nat.le_of_ble_eq_true rfl) (by refine ⟨?_, ?_, ?_, ?_⟩ <;> exact Nat.le_of_ble_eq_true rfl) (fun _ _ => trivial) (zX0_kindOf  (by first | assumption | omega | decide) (by first | assumption | omega | decide) (by first | assumption | omega | decide)) ?_
  intro x5 M5 J5 z5 f5 q5
  obtain ⟨e5_1, e5_2, h5⟩ := q5
  replace e5_1 := e5_1.symm; subst e5_1
  replace e5_2 := e5_2.symm; subst e5_2
  refine Z_rg (b + 1) g (nT1 hb) (fun k1 k1b => ?_)
  refine Z_ialdS1 (n := 9) dX3_letGoBehind_8 rfl (by omega) (by omega) (fun r8 s8 => ?_)
  refine Z_istore_n (L' := [_, _, _, _, _, _]) (n := 10) dX3_letGoBehind_9 rfl (by decide) rfl rfl ?_
  refine Z_iconst (n := 11) dX3_letGoBehind_10 rfl (by decide) ?_
  refine Z_istore (L' := [_, _, _, _, _, _]) (n := 13) dX3_letGoBehind_11 rfl (by decide) rfl rfl ?_
  have lp13 : ∀ (N13 : Nat) (i : Int) (M13 : zM) (J13 : zJ), ((3 - i).toNat) < N13 → (J13 = J) → (0 ≤ i) → (i ≤ opF x5) → (lgP (M 14) (M 13) (M13 13) (fun g c => M (b + 2) (3 * g + c)) g i) → TZ G mX3_letGoBehind (tl_rm 1 0 0) 0 0 k13 M J 13 [some (vR 0), some (vR b), some (vI g), some (vI (opF x5)), some (vI i), none] [] F1 M13 J13 (ZM G (zPost G k13 F1 M J (qV (fun M' J' => J' = J ∧ ∀ z : Int, 0 ≤ z → z < 40 → (((isop (M (b + 1)) (fun g c => M (b + 2) (3 * g + c)) g z) ∧ M 14 z = g) ∧ M' 13 z = -1) ∨ (¬ (isop (M (b + 1)) (fun g c => M (b + 2) (3 * g + c)) g z ∧ M 14 z = g) ∧ M' 13 z = M 13 z)))) 0 0) := by
    intro N13
    induction N13 with
    | zero => intro i M13 J13 hN; omega
    | succ N13 ih13 =>
      intro i M13 J13 hN13 i13_0 i13_1 i13_2 i13_3
      have hop5 := opF_in x5
      refine Z_iload (n := 15) dX3_letGoBehind_13 rfl rfl ?_
      refine Z_iload_n (n := 16) dX3_letGoBehind_15 rfl rfl ?_
      refine Z_icmp_ge (n := 19) (t := 53) dX3_letGoBehind_16 rfl (by decide) (fun c16 => ?_) (fun c16 => ?_)
      · refine Z_vret dX3_letGoBehind_53 rfl ?_
        refine ⟨i13_0, fun z _ _ => ?_⟩
        have q := i13_3 z
        rw [show i = opF (M (b + 1) g) by rw [← h5]; omega] at q
        exact q
      · refine Z_fr (fun fr13 => ?_)
        refine Z_aload_n (n := 20) dX3_letGoBehind_19 rfl rfl ?_
        refine Z_iload_n (n := 21) dX3_letGoBehind_20 rfl rfl ?_
        refine Z_iload (n := 23) dX3_letGoBehind_21 rfl rfl ?_
        refine Z_callVi (n := 26) [_, _] _ dX3_letGoBehind_23 rfl cwX3_234 rfl rfl (by first | rfl | exact nS0 hb) (Nat.le_of_ble_eq_true rfl) (by refine ⟨?_, ?_, ?_, ?_⟩ <;> exact Nat.le_of_ble_eq_true rfl) (fun _ _ => trivial) (zX0_operand  (by first | assumption | omega | decide) (by first | assumption | omega | decide) (by first | assumption | omega | decide) (by first | assumption | omega | decide) (by first | assumption | omega | decide)) ?_
        intro x23 M23 J23 z23 f23 q23
        obtain ⟨e23_1, e23_2, h23⟩ := q23
        replace e23_1 := e23_1.symm; subst e23_1
        replace e23_2 := e23_2.symm; subst e23_2
        rw [congrFun (fr13 (b + 2) (by unfold k13; omega)).1 _] at h23
        have hop := (hN.1 g h0 h1).1 i (by omega) (by rw [← h5]; omega)
        rw [← h23] at hop
        refine Z_istore (L' := [_, _, _, _, _, _]) (n := 28) dX3_letGoBehind_26 rfl (by decide) rfl rfl ?_
        refine Z_aload_n (n := 29) dX3_letGoBehind_28 rfl rfl ?_
        refine Z_getA (n := 32) dX3_letGoBehind_29 rfl ffX3_36 (by first | rfl | exact nS0 hb) (by first | rfl | exact nS0 hb) ?_
        refine Z_iload (n := 34) dX3_letGoBehind_32 rfl rfl ?_
        refine Z_iald (n := 35) dX3_letGoBehind_34 rfl (by first | rfl | exact nS0 hb) rfl (by first | decide | assumption) (by omega) (by omega) (fun r34 s34 => ?_)
        refine Z_iload_n (n := 36) dX3_letGoBehind_35 rfl rfl ?_
        refine Z_icmp_ne (n := 39) (t := 47) dX3_letGoBehind_36 rfl (by decide) (fun c36 => ?_) (fun c36 => ?_)
        · have nx3 : lgP (M 14) (M 13) (M13 13) (fun g c => M (b + 2) (3 * g + c)) g (i + 1) := lg_no i13_3 (by
            show ¬ M 14 (M (b + 2) (3 * g + i)) = g
            rw [← h23, ← congrFun (fr13 14 (by decide)).1 x23]
            exact c36)
          refine Z_iinc (L' := [_, _, _, _, _, _]) (n := 50) dX3_letGoBehind_47 rfl rfl (by decide) rfl rfl (by omega) rfl ?_
          refine Z_goto (t := 13) dX3_letGoBehind_50 (by decide) ?_
          refine Z_loc (L' := [some _, some _, some _, some _, some _, none]) (lsub_same (lsub_same (lsub_same (lsub_same (lsub_same (lsub_none lsub_nil)))))) ?_
          exact ih13 _ _ _ (by omega) (by assumption) (by first | assumption | omega | decide) (by omega) (by exact nx3)
        · refine Z_aload_n (n := 40) dX3_letGoBehind_39 rfl rfl ?_
          refine Z_getA (n := 43) dX3_letGoBehind_40 rfl ffX3_33 (by first | rfl | exact nS0 hb) (by first | rfl | exact nS0 hb) ?_
          refine Z_iload (n := 45) dX3_letGoBehind_43 rfl rfl ?_
          refine Z_iconst (n := 46) dX3_letGoBehind_45 rfl (by decide) ?_
          refine Z_iast (n := 47) dX3_letGoBehind_46 rfl (by first | rfl | exact nS0 hb) rfl (by first | decide | assumption) (by omega) (by omega) (by first | assumption | omega | decide) (by first | assumption | omega | decide) (by decide) ?_
          have nx3 : lgP (M 14) (M 13) (uz M13 13 x23 (-1) 13) (fun g c => M (b + 2) (3 * g + c)) g (i + 1) := by
            rw [uz_fn]
            exact lg_up i13_3 (by omega) h23.symm (by rw [← congrFun (fr13 14 (by decide)).1 x23]; exact c36)
          refine Z_iinc (L' := [_, _, _, _, _, _]) (n := 50) dX3_letGoBehind_47 rfl rfl (by decide) rfl rfl (by omega) rfl ?_
          refine Z_goto (t := 13) dX3_letGoBehind_50 (by decide) ?_
          refine Z_loc (L' := [some _, some _, some _, some _, some _, none]) (lsub_same (lsub_same (lsub_same (lsub_same (lsub_same (lsub_none lsub_nil)))))) ?_
          exact ih13 _ _ _ (by omega) (by assumption) (by first | assumption | omega | decide) (by omega) (by exact nx3)
  refine Z_loc (L' := [some _, some _, some _, some _, some _, none]) (lsub_same (lsub_same (lsub_same (lsub_same (lsub_same (lsub_none lsub_nil)))))) ?_
  exact lp13 _ _ _ _ (Nat.lt_succ_self _) (by rfl) (by first | assumption | omega | decide) (by exact (opF_in _).1) (by exact lg_0)
/-- what was kept stays, what was built is kept behind it -/
def kpQ (M : zM) (x : Int) (M' : zM) : Prop := (M 0 7 ≤ M' 0 7 ∧ M' 0 7 ≤ M 0 7 + 1) ∧ (∀ k : Int, k < M 0 7 → M' 15 k = M 15 k) ∧ (¬ x = -1 → M' 0 7 = M 0 7 + 1 ∧ M' 15 (M 0 7) = x)
def bdX (M0 : zM) (E : Lb → Prop) (kd : Int → Int) (od : Int → Int → Int) (pl : Int → Int) (g x : Int) (M' : zM) : Prop := ∃ L : Int → Int, lnS kd od g L ∧ bdQ M0 E (gF kd od pl) L g x M'
theorem mf_op {M0 M : zM} {E : Lb → Prop} {F : Int → FN} {H : Int → Prop} {n i d x : Int} (h : gtI M0 M E F H) (hi : i < n → H d ∧ 0 ≤ d ∧ d < 40) (hx : x = (if i < n then M 13 d else 0)) : ¬ x = -1 ∧ opr M x ∧ ∀ r, den M x r = (if i < n then F d r else 0) := by
  by_cases q : i < n
  · obtain ⟨a, b, c⟩ := hi q
    rw [if_pos q] at hx
    obtain ⟨-, p2, p3⟩ := (h.2.2.2.2.1 d b c).resolve_right (fun t => t.1 a)
    refine ⟨by rw [hx]; exact p2, Or.inr (Or.inr ⟨Or.inr (Or.inl ⟨d, ⟨b, c⟩, hx⟩), by rw [hx]; exact p2⟩), fun r => ?_⟩
    rw [if_pos q, hx, p3]
  · rw [if_neg q] at hx
    refine ⟨by omega, Or.inl hx, fun r => ?_⟩
    rw [if_neg q, hx]
    exact den_0
set_option maxRecDepth 20000 in
theorem zX3_building_f {G : tl_G} {M : zM} {J : zJ} {b : Nat} {M0 : zM} {E : Lb → Prop} {o : Int} (hb : NetAt b) (hN : netOK M b) (h0 : 0 ≤ o) (h1 : o < M b 5) (hO : ordOK M) (hb0 : CB M0) (hm : mid M0 M E) (hg0 : ∀ x : Int, 0 ≤ x → x < 40 → M 13 x = -1) (h7 : M 0 7 < 8) : ZN G yX3_building mX3_building 13 kStep [vR 0, vR b, vI o] F1 M J (qI (fun x M' J' => J' = J ∧ (-1 ≤ x ∧ x ≤ 251) ∧ kpQ M x M' ∧ bdX M0 E (M (b + 1)) (fun g c => M (b + 2) (3 * g + c)) (M 4) (M (b + 3) o) x M')) := by
  refine ZN_of (L := [_, _, _, _, _, _, _]) (by decide) rfl rfl (Nat.le_of_ble_eq_true rfl) rfl (fun hav => ?_)
  refine Z_rg b 5 (nTo hb) (fun g5 g5b => ?_)
  refine Z_rg b 4 (nTg hb) (fun g4 g4b => ?_)
  refine Z_rg 0 7 rfl (fun g07 g07b => ?_)
  have ho := hN.2 o h0 h1
  refine Z_aload_n (n := 1) dX3_building_0 rfl rfl ?_
  refine Z_iload_n (n := 2) dX3_building_1 rfl rfl ?_
  refine Z_aload_n (n := 3) dX3_building_2 rfl rfl ?_
  refine Z_getA (n := 6) dX3_building_3 rfl ffX3_36 (by first | rfl | exact nS0 hb) (by first | rfl | exact nS0 hb) ?_
  refine Z_callVi (n := 9) [_, _] _ dX3_building_6 rfl cwX3_227 rfl rfl (by first | rfl | exact nS0 hb) (Nat.le_of_ble_eq_true rfl) (by refine ⟨?_, ?_, ?_, ?_⟩ <;> exact Nat.le_of_ble_eq_true rfl) (fun a h => by unfold kStep at h; unfold kLN; omega) (zX0_findNeeds_f  (by first | assumption | omega | decide) (by first | assumption | omega | decide) (by first | assumption | omega | decide) (by first | assumption | omega | decide)) ?_
  intro x6 M6 J6 z6 f6 q6
  obtain ⟨e6_1, h6, ls6⟩ := q6
  replace e6_1 := e6_1.symm; subst e6_1
  subst h6
  obtain ⟨L, hL⟩ : ∃ L : Int → Int, L = M6 14 := ⟨_, rfl⟩
  rw [← hL] at ls6
  have gt6 : gtI M0 M6 E (gF (M (b + 1)) (fun g c => M (b + 2) (3 * g + c)) (M 4)) (hnd L (M (b + 3) o) 0) := gt_H (gt_cg (congrFun (f6 0 (by decide)).1 7) (f6 5 (by decide)).1 (f6 6 (by decide)).1 (f6 7 (by decide)).1 (f6 8 (by decide)).1 (f6 10 (by decide)).1 (f6 11 (by decide)).1 (f6 12 (by decide)).1 (f6 13 (by decide)).1 (f6 15 (by decide)).1 (mid_gt hm hg0)) (fun z => hn_0 z)
  refine Z_istore_n (L' := [_, _, _, _, _, _, _]) (n := 10) dX3_building_9 rfl (by decide) rfl rfl ?_
  refine Z_iconst (n := 11) dX3_building_10 rfl (by decide) ?_
  refine Z_istore (L' := [_, _, _, _, _, _, _]) (n := 13) dX3_building_11 rfl (by decide) rfl rfl ?_
  have lp13 : ∀ (N13 : Nat) (g : Int) (M13 : zM) (J13 : zJ), ((M (b + 3) o + 1 - g).toNat) < N13 → (J13 = J) → (0 ≤ g) → (g ≤ M (b + 3) o + 1) → (gtI M0 M13 E (gF (M (b + 1)) (fun g c => M (b + 2) (3 * g + c)) (M 4)) (hnd L (M (b + 3) o) g)) → (M13 14 = L) → (M13 0 7 = M 0 7) → (∀ k : Int, 0 ≤ k → k < g → ¬ L k = -1 → okP M0 (EH E (gF (M (b + 1)) (fun g c => M (b + 2) (3 * g + c)) (M 4)) (hnd L (M (b + 3) o) k)) ((gF (M (b + 1)) (fun g c => M (b + 2) (3 * g + c)) (M 4)) k)) → (M13 15 = M 15) → TZ G mX3_building (tl_rm 13 0 0) 0 0 kStep M J 13 [some (vR 0), some (vR b), some (vI o), some (vI (M (b + 3) o)), some (vI g), none, none] [] F1 M13 J13 (ZM G (zPost G kStep F1 M J (qI (fun x M' J' => J' = J ∧ (-1 ≤ x ∧ x ≤ 251) ∧ kpQ M x M' ∧ bdX M0 E (M (b + 1)) (fun g c => M (b + 2) (3 * g + c)) (M 4) (M (b + 3) o) x M'))) 0 0) := by
    intro N13
    induction N13 with
    | zero => intro g M13 J13 hN; omega
    | succ N13 ih13 =>
      intro g M13 J13 hN13 i13_0 i13_1 i13_2 i13_3 i13_4 i13_5 i13_6 i13_7
      refine Z_iload (n := 15) dX3_building_13 rfl rfl ?_
      refine Z_iload_n (n := 16) dX3_building_15 rfl rfl ?_
      refine Z_icmp_gt (n := 19) (t := 122) dX3_building_16 rfl (by decide) (fun c16 => ?_) (fun c16 => ?_)
      · refine Z_fr (fun fr13 => ?_)
        have eg : g = M (b + 3) o + 1 := by omega
        rw [eg] at i13_3 i13_6
        have ge := gt_H i13_3 (fun z => (hn_end ls6 (by omega) (by omega) z).symm)
        refine Z_aload_n (n := 123) dX3_building_122 rfl rfl ?_
        refine Z_aload_n (n := 124) dX3_building_123 rfl rfl ?_
        refine Z_getA (n := 127) dX3_building_124 rfl ffX3_33 (by first | rfl | exact nS0 hb) (by first | rfl | exact nS0 hb) ?_
        refine Z_iload_n (n := 128) dX3_building_127 rfl rfl ?_
        refine Z_iald (n := 129) dX3_building_128 rfl (by first | rfl | exact nS0 hb) rfl (by first | decide | assumption) (by omega) (by omega) (fun r128 s128 => ?_)
        refine Z_callVi (n := 132) [_] _ dX3_building_129 rfl cwX3_149 rfl rfl (by first | rfl | exact nS0 hb) (Nat.le_of_ble_eq_true rfl) (by refine ⟨?_, ?_, ?_, ?_⟩ <;> exact Nat.le_of_ble_eq_true rfl) (fun a h => by unfold kStep at h; unfold kKeep; omega) (zX3_keep_f  (by omega) (by omega) (by omega)) ?_
        intro x129 M129 J129 z129 f129 q129
        obtain ⟨e129_1, h129, kp129⟩ := q129
        replace e129_1 := e129_1.symm; subst e129_1
        refine Z_istore (L' := [_, _, _, _, _, _, _]) (n := 134) dX3_building_132 rfl (by decide) rfl rfl ?_
        refine Z_aload_n (n := 135) dX3_building_134 rfl rfl ?_
        refine Z_getA (n := 138) dX3_building_135 rfl ffX3_33 (by first | rfl | exact nS0 hb) (by first | rfl | exact nS0 hb) ?_
        refine Z_iload_n (n := 139) dX3_building_138 rfl rfl ?_
        refine Z_iconst (n := 140) dX3_building_139 rfl (by decide) ?_
        refine Z_iast (n := 141) dX3_building_140 rfl (by first | rfl | exact nS0 hb) rfl (by first | decide | assumption) (by omega) (by omega) (by first | assumption | omega | decide) (by first | assumption | omega | decide) (by decide) ?_
        refine Z_iload (n := 143) dX3_building_141 rfl rfl ?_
        refine Z_iret dX3_building_143 rfl ?_
        have hn13 := ((ge.2.2.2.2.1 (M (b + 3) o) (by omega) (by omega)).resolve_right (fun t => t.1 rfl)).2.1
        obtain ⟨-, ek⟩ := kp129.resolve_left (fun z => hn13 z.1)
        obtain ⟨r1, r2, r3, r4, r5⟩ := gt_kp hb0 ge (by omega) (by omega) (by omega) ek rfl
        rw [h129]
        have w07 : uz M129 13 (M (b + 3) o) (-1) 0 7 = M 0 7 + 1 := by rw [uz_oo (by decide), ek, uz_s]; omega
        have w15 : uz M129 13 (M (b + 3) o) (-1) 15 = updI (M 15) (M 0 7) (M13 13 (M (b + 3) o)) := by rw [uz_o (by decide), ek, uz_o (by decide), uz_fn, i13_5, i13_7]
        exact ⟨by assumption, by omega, ⟨by omega, fun k hk => by rw [w15, updI_n (by omega)], fun _ => ⟨w07, by rw [w15, updI_s]⟩⟩, L, ls6, Or.inr ⟨r3, fun k a b c => i13_6 k a (by omega) c, r1, ⟨r2, r4⟩, r5⟩⟩
      · refine Z_fr (fun fr13 => ?_)
        have hN13 : netOK M13 b := netOK_fr hN (fr13 b (by unfold kStep; omega)).1 (fr13 (b + 1) (by unfold kStep; omega)).1 (fr13 (b + 2) (by unfold kStep; omega)).1 (fr13 (b + 3) (by unfold kStep; omega)).1
        have hb4 : M13 b 4 = M b 4 := congrFun (fr13 b (by unfold kStep; omega)).1 4
        have hO13 : ordOK M13 := ordOK_fr hO (fr13 4 (by decide)).1
        have hH13 : ∀ x, hnd L (M (b + 3) o) g x → 0 ≤ x ∧ x < 40 := fun x hx => by have := hx.1; omega
        have md13 := gt_mid hb0 i13_3 hH13
        have no13 := mid_no md13
        obtain ⟨S13, hS13, hR13⟩ := md13.1
        refine Z_aload_n (n := 20) dX3_building_19 rfl rfl ?_
        refine Z_getA (n := 23) dX3_building_20 rfl ffX3_36 (by first | rfl | exact nS0 hb) (by first | rfl | exact nS0 hb) ?_
        refine Z_iload (n := 25) dX3_building_23 rfl rfl ?_
        refine Z_iald (n := 26) dX3_building_25 rfl (by first | rfl | exact nS0 hb) rfl (by first | decide | assumption) (by omega) (by omega) (fun r25 s25 => ?_)
        refine Z_iconst (n := 27) dX3_building_26 rfl (by decide) ?_
        refine Z_icmp_ne (n := 30) (t := 33) dX3_building_27 rfl (by decide) (fun c27 => ?_) (fun c27 => ?_)
        · have hkL : ¬ L g = -1 := by rw [← i13_4]; exact c27
          refine Z_aload_n (n := 34) dX3_building_33 rfl rfl ?_
          refine Z_iload (n := 36) dX3_building_34 rfl rfl ?_
          refine Z_callVi (n := 39) [_] _ dX3_building_36 rfl cwX3_231 rfl rfl (by first | rfl | exact nS0 hb) (Nat.le_of_ble_eq_true rfl) (by refine ⟨?_, ?_, ?_, ?_⟩ <;> exact Nat.le_of_ble_eq_true rfl) (fun _ _ => trivial) (zX0_kindOf  (by first | assumption | omega | decide) (by omega) (by omega)) ?_
          intro x36 M36 J36 z36 f36 q36
          obtain ⟨e36_1, e36_2, h36⟩ := q36
          replace e36_1 := e36_1.symm; subst e36_1
          replace e36_2 := e36_2.symm; subst e36_2
          refine Z_istore (L' := [_, _, _, _, _, _, _]) (n := 41) dX3_building_39 rfl (by decide) rfl rfl ?_
          have ct90 : ∀ (x : Int) (M90 : zM) (J90 : zJ), (J90 = J) → (stQ M13 ((gF (M (b + 1)) (fun g c => M (b + 2) (3 * g + c)) (M 4)) g) x M90) → (M90 12 = M13 12) → (M90 13 = M13 13) → (M90 14 = M13 14) → (M90 15 = M13 15) → (-1 ≤ x ∧ x ≤ 251) → TZ G mX3_building (tl_rm 13 0 0) 0 0 kStep M J 90 [some (vR 0), some (vR b), some (vI o), some (vI (M (b + 3) o)), some (vI g), some (vI x36), none] [vI x] F1 M90 J90 (ZM G (zPost G kStep F1 M J (qI (fun x M' J' => J' = J ∧ (-1 ≤ x ∧ x ≤ 251) ∧ kpQ M x M' ∧ bdX M0 E (M (b + 1)) (fun g c => M (b + 2) (3 * g + c)) (M 4) (M (b + 3) o) x M'))) 0 0) := by
            intro x M90 J90 i90_0 i90_1 i90_2 i90_3 i90_4 i90_5 i90_6
            obtain ⟨gs, Sm, hSm, hRm, hxm⟩ := gt_st hb0 i13_3 hH13 i90_1 i90_2 i90_3 i90_5
            refine Z_istore (L' := [_, _, _, _, _, _, _]) (n := 92) dX3_building_90 rfl (by decide) rfl rfl ?_
            refine Z_iload (n := 94) dX3_building_92 rfl rfl ?_
            refine Z_iconst (n := 95) dX3_building_94 rfl (by decide) ?_
            refine Z_icmp_ne (n := 98) (t := 100) dX3_building_95 rfl (by decide) (fun c95 => ?_) (fun c95 => ?_)
            · refine Z_aload_n (n := 101) dX3_building_100 rfl rfl ?_
              refine Z_getA (n := 104) dX3_building_101 rfl ffX3_33 (by first | rfl | exact nS0 hb) (by first | rfl | exact nS0 hb) ?_
              refine Z_iload (n := 106) dX3_building_104 rfl rfl ?_
              refine Z_iload (n := 108) dX3_building_106 rfl rfl ?_
              refine Z_iast (n := 109) dX3_building_108 rfl (by first | rfl | exact nS0 hb) rfl (by first | decide | assumption) (by omega) (by omega) (by first | assumption | omega | decide) (by first | assumption | omega | decide) (by decide) ?_
              refine Z_nm (fun M108 e108 => ?_)
              obtain ⟨-, okm, dm, gm⟩ := gs.resolve_left (fun z => by omega)
              have ga := gt_add gm hSm hRm (hxm.resolve_left (by omega)) dm (by omega) (by omega) okm e108
              have o108 : ∀ a : Nat, ¬ a = 13 → M108 a = M90 a := fun a ha => by rw [e108]; exact uz_o ha
              clear e108
              refine Z_fr (fun fr108 => ?_)
              have hN108 : netOK M108 b := netOK_fr hN (fr108 b (by unfold kStep; omega)).1 (fr108 (b + 1) (by unfold kStep; omega)).1 (fr108 (b + 2) (by unfold kStep; omega)).1 (fr108 (b + 3) (by unfold kStep; omega)).1
              have hb4b : M108 b 4 = M b 4 := congrFun (fr108 b (by unfold kStep; omega)).1 4
              refine Z_aload_n (n := 110) dX3_building_109 rfl rfl ?_
              refine Z_aload_n (n := 111) dX3_building_110 rfl rfl ?_
              refine Z_iload (n := 113) dX3_building_111 rfl rfl ?_
              refine Z_callVv (n := 116) [_, _] _ dX3_building_113 rfl cwX3_241 rfl rfl (by first | rfl | exact nS0 hb) (Nat.le_of_ble_eq_true rfl) (by refine ⟨?_, ?_, ?_, ?_⟩ <;> exact Nat.le_of_ble_eq_true rfl) (fun a h => by unfold kStep at h; unfold k13; omega) (zX3_letGoBehind_f  (by first | assumption | omega | decide) (by exact hN108) (by omega) (by omega)) ?_
              intro M113 J113 f113 q113
              obtain ⟨e113_1, lg113⟩ := q113
              replace e113_1 := e113_1.symm; subst e113_1
              have e14 : M108 14 = L := (o108 14 (by decide)).trans (i90_4.trans i13_4)
              rw [e14, (fr108 (b + 1) (by unfold kStep; omega)).1, (fr108 (b + 2) (by unfold kStep; omega)).1] at lg113
              have gl := gt_let (D := fun z => isop (M (b + 1)) (fun g c => M (b + 2) (3 * g + c)) g z ∧ L z = g) ga (fun a ha => (f113 a ha).1) lg113
              have n3 : gtI M0 M113 E (gF (M (b + 1)) (fun g c => M (b + 2) (3 * g + c)) (M 4)) (hnd L (M (b + 3) o) (g + 1)) := gt_H gl (hn_step ls6 (by omega) (by omega) (by omega) hkL (fun z hz => by
                obtain ⟨c, cb, hz⟩ := hz
                have w := (hN.1 g (by omega) (by omega)).1 c cb.1 cb.2
                rw [← hz]
                exact w.2))
              have n4 : M113 14 = L := ((f113 14 (by decide)).1).trans e14
              have n5 : M113 0 7 = M 0 7 := (congrFun (f113 0 (by decide)).1 7).trans ((congrFun (o108 0 (by decide)) 7).trans ((i90_1.2.2.2.1).trans i13_5))
              have n7 : M113 15 = M 15 := ((f113 15 (by decide)).1).trans ((o108 15 (by decide)).trans (i90_5.trans i13_7))
              have n6 : ∀ k : Int, 0 ≤ k → k < g + 1 → ¬ L k = -1 → okP M0 (EH E (gF (M (b + 1)) (fun g c => M (b + 2) (3 * g + c)) (M 4)) (hnd L (M (b + 3) o) k)) ((gF (M (b + 1)) (fun g c => M (b + 2) (3 * g + c)) (M 4)) k) := fun k a b c => by
                by_cases e : k = g
                · rw [e]; exact okm
                · exact i13_6 k a (by omega) c
              refine Z_iinc (L' := [_, _, _, _, _, _, _]) (n := 119) dX3_building_116 rfl rfl (by decide) rfl rfl (by omega) rfl ?_
              refine Z_goto (t := 13) dX3_building_119 (by decide) ?_
              refine Z_loc (L' := [some _, some _, some _, some _, some _, none, none]) (lsub_same (lsub_same (lsub_same (lsub_same (lsub_same (lsub_none (lsub_none lsub_nil))))))) ?_
              exact ih13 _ _ _ (by omega) (by assumption) (by first | assumption | omega | decide) (by first | assumption | omega | decide) (by exact n3) (by exact n4) (by exact n5) (by exact n6) (by exact n7)
            · refine Z_iconst (n := 99) dX3_building_98 rfl (by decide) ?_
              refine Z_iret dX3_building_99 rfl ?_
              obtain ⟨-, nok, mdx⟩ := gs.resolve_right (fun z => z.1 (by omega))
              have h07 : M90 0 7 = M 0 7 := (i90_1.2.2.2.1).trans i13_5
              exact ⟨i90_0, by omega, ⟨by omega, fun k _ => by rw [i90_5, i13_7], fun t => absurd rfl t⟩, L, ls6, Or.inl ⟨rfl, fun t => nok (t g (by omega) (by omega) hkL), _, mdx⟩⟩
          refine Z_rg (b + 1) g (nT1 hb) (fun k1 k1b => ?_)
          refine Z_iload (n := 43) dX3_building_41 rfl rfl ?_
          refine Z_if_ne (n := 46) (t := 60) dX3_building_43 rfl (by decide) (fun c43 => ?_) (fun c43 => ?_)
          · refine Z_aload_n (n := 61) dX3_building_60 rfl rfl ?_
            refine Z_iload (n := 63) dX3_building_61 rfl rfl ?_
            refine Z_aload_n (n := 64) dX3_building_63 rfl rfl ?_
            refine Z_aload_n (n := 65) dX3_building_64 rfl rfl ?_
            refine Z_iload (n := 67) dX3_building_65 rfl rfl ?_
            refine Z_iconst (n := 68) dX3_building_67 rfl (by decide) ?_
            refine Z_callVi (n := 71) [_, _, _] _ dX3_building_68 rfl cwX3_237 rfl rfl (by first | rfl | exact nS0 hb) (Nat.le_of_ble_eq_true rfl) (by refine ⟨?_, ?_, ?_, ?_⟩ <;> exact Nat.le_of_ble_eq_true rfl) (fun _ _ => trivial) (zX3_madeFor_f  (by first | assumption | omega | decide) (by assumption) (by omega) (by omega) (by omega) (by omega)) ?_
            intro x68 M68 J68 z68 f68 q68
            obtain ⟨e68_1, e68_2, h68⟩ := q68
            replace e68_1 := e68_1.symm; subst e68_1
            replace e68_2 := e68_2.symm; subst e68_2
            refine Z_aload_n (n := 72) dX3_building_71 rfl rfl ?_
            refine Z_aload_n (n := 73) dX3_building_72 rfl rfl ?_
            refine Z_iload (n := 75) dX3_building_73 rfl rfl ?_
            refine Z_iconst (n := 76) dX3_building_75 rfl (by decide) ?_
            refine Z_callVi (n := 79) [_, _, _] _ dX3_building_76 rfl cwX3_237 rfl rfl (by first | rfl | exact nS0 hb) (Nat.le_of_ble_eq_true rfl) (by refine ⟨?_, ?_, ?_, ?_⟩ <;> exact Nat.le_of_ble_eq_true rfl) (fun _ _ => trivial) (zX3_madeFor_f  (by first | assumption | omega | decide) (by assumption) (by omega) (by omega) (by omega) (by omega)) ?_
            intro x76 M76 J76 z76 f76 q76
            obtain ⟨e76_1, e76_2, h76⟩ := q76
            replace e76_1 := e76_1.symm; subst e76_1
            replace e76_2 := e76_2.symm; subst e76_2
            refine Z_aload_n (n := 80) dX3_building_79 rfl rfl ?_
            refine Z_aload_n (n := 81) dX3_building_80 rfl rfl ?_
            refine Z_iload (n := 83) dX3_building_81 rfl rfl ?_
            refine Z_iconst (n := 84) dX3_building_83 rfl (by decide) ?_
            refine Z_callVi (n := 87) [_, _, _] _ dX3_building_84 rfl cwX3_237 rfl rfl (by first | rfl | exact nS0 hb) (Nat.le_of_ble_eq_true rfl) (by refine ⟨?_, ?_, ?_, ?_⟩ <;> exact Nat.le_of_ble_eq_true rfl) (fun _ _ => trivial) (zX3_madeFor_f  (by first | assumption | omega | decide) (by assumption) (by omega) (by omega) (by omega) (by omega)) ?_
            intro x84 M84 J84 z84 f84 q84
            obtain ⟨e84_1, e84_2, h84⟩ := q84
            replace e84_1 := e84_1.symm; subst e84_1
            replace e84_2 := e84_2.symm; subst e84_2
            have op68 := mf_op (x := x68) (d := M (b + 2) (3 * g + 0)) (n := opF (M (b + 1) g)) i13_3 (fun q => by
              have z := (hN.1 g (by omega) (by omega)).1 0 (by omega) q
              exact ⟨lnS_op ls6 (by omega) (by omega) hkL z.1 z.2 ⟨0, ⟨by omega, q⟩, rfl⟩, z.1, by omega⟩) (by rw [h68, (fr13 (b + 1) (by unfold kStep; omega)).1, (fr13 (b + 2) (by unfold kStep; omega)).1])
            have op76 := mf_op (x := x76) (d := M (b + 2) (3 * g + 1)) (n := opF (M (b + 1) g)) i13_3 (fun q => by
              have z := (hN.1 g (by omega) (by omega)).1 1 (by omega) q
              exact ⟨lnS_op ls6 (by omega) (by omega) hkL z.1 z.2 ⟨1, ⟨by omega, q⟩, rfl⟩, z.1, by omega⟩) (by rw [h76, (fr13 (b + 1) (by unfold kStep; omega)).1, (fr13 (b + 2) (by unfold kStep; omega)).1])
            have op84 := mf_op (x := x84) (d := M (b + 2) (3 * g + 2)) (n := opF (M (b + 1) g)) i13_3 (fun q => by
              have z := (hN.1 g (by omega) (by omega)).1 2 (by omega) q
              exact ⟨lnS_op ls6 (by omega) (by omega) hkL z.1 z.2 ⟨2, ⟨by omega, q⟩, rfl⟩, z.1, by omega⟩) (by rw [h84, (fr13 (b + 1) (by unfold kStep; omega)).1, (fr13 (b + 2) (by unfold kStep; omega)).1])
            refine Z_callVi (n := 90) [_, _, _, _] _ dX3_building_87 rfl cwX3_142 rfl rfl (by first | rfl | exact nS0 hb) (Nat.le_of_ble_eq_true rfl) (by refine ⟨?_, ?_, ?_, ?_⟩ <;> exact Nat.le_of_ble_eq_true rfl) (fun a h => by unfold kStep at h; unfold kSt1; omega) (zX3_kindStep_f  (by omega) (by omega) (by exact Or.inr op68.2.1) (by exact Or.inr op76.2.1) (by exact Or.inr op84.2.1) (by exact hS13) (by exact hR13) (by exact no13)) ?_
            intro x87 M87 J87 z87 f87 q87
            obtain ⟨e87_1, sq87⟩ := q87
            replace e87_1 := e87_1.symm; subst e87_1
            have sqk := (sq87.resolve_left (fun z => by have a1 := op68.1; have a2 := op76.1; have a3 := op84.1; omega)).2
            have s90 : stQ M13 ((gF (M (b + 1)) (fun g c => M (b + 2) (3 * g + c)) (M 4)) g) x87 M87 := by
              have e : (gF (M (b + 1)) (fun g c => M (b + 2) (3 * g + c)) (M 4)) g = fun r => tbl (tabF x36) (den M13 x68 r) (den M13 x76 r) (den M13 x84 r) := by
                rw [gF_eq (m := M b 4) (fun q a b c c0 c1 => (hN.1 q a b).1 c c0 c1) (by omega) (by omega)]
                unfold gst
                rw [if_neg (show ¬ M (b + 1) g = 0 by rw [← (fr13 (b + 1) (by unfold kStep; omega)).1, ← h36]; omega)]
                funext r
                rw [op68.2.2 r, op76.2.2 r, op84.2.2 r, h36, (fr13 (b + 1) (by unfold kStep; omega)).1]
              rw [e]
              exact sqk
            have t12 := (f87 12 (by decide)).1
            have t13 := (f87 13 (by decide)).1
            have t14 := (f87 14 (by decide)).1
            have t15 := (f87 15 (by decide)).1
            have t16 : -1 ≤ x87 ∧ x87 ≤ 251 := by
              obtain ⟨S, hS, -, hx⟩ := sqk.1
              rcases hx with z | z
              · omega
              · have := okN_in hS.1 z; omega
            refine Z_loc (L' := [some _, some _, some _, some _, some _, some _, none]) (lsub_same (lsub_same (lsub_same (lsub_same (lsub_same (lsub_same (lsub_none lsub_nil))))))) ?_
            exact ct90 _ _ _ (by first | rfl | assumption) (by exact s90) (by exact t12) (by exact t13) (by exact t14) (by exact t15) (by exact t16)
          · refine Z_aload_n (n := 47) dX3_building_46 rfl rfl ?_
            refine Z_aload_n (n := 48) dX3_building_47 rfl rfl ?_
            refine Z_iload (n := 50) dX3_building_48 rfl rfl ?_
            refine Z_iconst (n := 51) dX3_building_50 rfl (by decide) ?_
            have hov := (hN13.1 g (by omega) (by omega)).2 (by omega)
            refine Z_callVi (n := 54) [_, _] _ dX3_building_51 rfl cwX3_234 rfl rfl (by first | rfl | exact nS0 hb) (Nat.le_of_ble_eq_true rfl) (by refine ⟨?_, ?_, ?_, ?_⟩ <;> exact Nat.le_of_ble_eq_true rfl) (fun _ _ => trivial) (zX0_operand  (by first | assumption | omega | decide) (by omega) (by omega) (by omega) (by omega)) ?_
            intro x51 M51 J51 z51 f51 q51
            obtain ⟨e51_1, e51_2, h51⟩ := q51
            replace e51_1 := e51_1.symm; subst e51_1
            replace e51_2 := e51_2.symm; subst e51_2
            rw [show 3 * g + 0 = 3 * g by omega] at h51
            rw [← h51] at hov
            refine Z_callVi (n := 57) [_] _ dX3_building_54 rfl cwX3_136 rfl rfl (by first | rfl | exact nS0 hb) (Nat.le_of_ble_eq_true rfl) (by refine ⟨?_, ?_, ?_, ?_⟩ <;> exact Nat.le_of_ble_eq_true rfl) (fun a h => by unfold kStep at h; unfold kSt1; omega) (zX3_variableStep_f  (by omega) (by omega) (by exact hO13) (by exact hS13) (by exact hR13) (by exact no13)) ?_
            intro x54 M54 J54 z54 f54 q54
            obtain ⟨e54_1, sq54⟩ := q54
            replace e54_1 := e54_1.symm; subst e54_1
            have s90 : stQ M13 ((gF (M (b + 1)) (fun g c => M (b + 2) (3 * g + c)) (M 4)) g) x54 M54 := by
              have e : (gF (M (b + 1)) (fun g c => M (b + 2) (3 * g + c)) (M 4)) g = fun r => bz (r (M13 4 x51)) := by
                rw [gF_eq (m := M b 4) (fun q a b c c0 c1 => (hN.1 q a b).1 c c0 c1) (by omega) (by omega)]
                unfold gst
                rw [if_pos (show M (b + 1) g = 0 by rw [← (fr13 (b + 1) (by unfold kStep; omega)).1, ← h36]; omega), h51, (fr13 4 (by decide)).1, (fr13 (b + 2) (by unfold kStep; omega)).1]
                try simp only [Int.add_zero]
              rw [e]
              exact sq54
            have t12 := (f54 12 (by decide)).1
            have t13 := (f54 13 (by decide)).1
            have t14 := (f54 14 (by decide)).1
            have t15 := (f54 15 (by decide)).1
            have t16 : -1 ≤ x54 ∧ x54 ≤ 251 := by
              obtain ⟨S, hS, -, hx⟩ := sq54.1
              rcases hx with z | z
              · omega
              · have := okN_in hS.1 z; omega
            refine Z_goto (t := 90) dX3_building_57 (by decide) ?_
            refine Z_loc (L' := [some _, some _, some _, some _, some _, some _, none]) (lsub_same (lsub_same (lsub_same (lsub_same (lsub_same (lsub_same (lsub_none lsub_nil))))))) ?_
            exact ct90 _ _ _ (by first | rfl | assumption) (by exact s90) (by exact t12) (by exact t13) (by exact t14) (by exact t15) (by exact t16)
        · have hkL : L g = -1 := by rw [← i13_4]; exact c27
          have n3 := gt_H i13_3 (hn_skip ls6 (by omega) (by omega) hkL)
          have n4 := i13_4
          have n5 := i13_5
          have n7 := i13_7
          have n6 : ∀ k : Int, 0 ≤ k → k < g + 1 → ¬ L k = -1 → okP M0 (EH E (gF (M (b + 1)) (fun g c => M (b + 2) (3 * g + c)) (M 4)) (hnd L (M (b + 3) o) k)) ((gF (M (b + 1)) (fun g c => M (b + 2) (3 * g + c)) (M 4)) k) := fun k a b c => by
            by_cases e : k = g
            · exact absurd (by rw [e]; exact hkL) c
            · exact i13_6 k a (by omega) c
          refine Z_goto (t := 116) dX3_building_30 (by decide) ?_
          refine Z_iinc (L' := [_, _, _, _, _, _, _]) (n := 119) dX3_building_116 rfl rfl (by decide) rfl rfl (by omega) rfl ?_
          refine Z_goto (t := 13) dX3_building_119 (by decide) ?_
          refine Z_loc (L' := [some _, some _, some _, some _, some _, none, none]) (lsub_same (lsub_same (lsub_same (lsub_same (lsub_same (lsub_none (lsub_none lsub_nil))))))) ?_
          exact ih13 _ _ _ (by omega) (by assumption) (by first | assumption | omega | decide) (by first | assumption | omega | decide) (by exact n3) (by exact n4) (by exact n5) (by exact n6) (by exact n7)
  refine Z_loc (L' := [some _, some _, some _, some _, some _, none, none]) (lsub_same (lsub_same (lsub_same (lsub_same (lsub_same (lsub_none (lsub_none lsub_nil))))))) ?_
  exact lp13 _ _ _ _ (Nat.lt_succ_self _) (by rfl) (by first | assumption | omega | decide) (by first | assumption | omega | decide) (by exact gt6) (by exact hL.symm) (by exact congrFun (f6 0 (by decide)).1 7) (by exact fun k a b => by omega) (by exact (f6 15 (by decide)).1)
end
section
/-! ===== the class: build ===== -/
theorem bd_fin {M M3 : zM} {E : Lb → Prop} {F : Int → FN} {L : Int → Int} {g x : Int} (h : bdQ M E F L g x M3) : ∃ E' : Lb → Prop, mid M M3 E' ∧ (okB M E F L g ↔ ¬ x = -1) ∧ (¬ x = -1 → den M3 x = F g ∧ ¬ over (fun y => (LBc M y ∨ E' y) ∨ laid (F g) y) (M 5 8)) ∧ ∃ S : Int → Prop, plo M3 S ∧ rtO M3 S ∧ (x = -1 ∨ okN S x) := by
  rcases h with ⟨a, b, E', m⟩ | ⟨a, b, m, ⟨r, d⟩, -⟩
  · obtain ⟨S, hS, hR⟩ := m.1
    exact ⟨E', m, ⟨fun t => absurd t b, fun t => absurd a t⟩, fun t => absurd a t, S, hS, hR, Or.inl a⟩
  · obtain ⟨S, hS, hR⟩ := m.1
    refine ⟨_, m, ⟨fun _ => a, fun _ => b⟩, fun _ => ⟨d, fun ho => m.2.2.2.2 (over_mono (fun y hy => ?_) ho)⟩, S, hS, hR, (hR x r).imp_right id⟩
    rcases hy with w | w
    · exact w
    · exact Or.inr (Or.inr w)
def bfQ (M : zM) (h : Int) (kd : Int → Int) (od : Int → Int → Int) (pl : Int → Int) (g x : Int) (M' : zM) : Prop := ∃ L : Int → Int, lnS kd od g L ∧ finQ M h (okB M E0 (gF kd od pl) L g) (gF kd od pl g) x M'
set_option maxRecDepth 20000 in
theorem zX3_build_f {G : tl_G} {M : zM} {J : zJ} {h net o : Int} (hc : cI M) (hb : CB M) : ZN G yX3_build mX3_build 14 kFc [vR 0, vI h, vI net, vI o] F1 M J (qI (fun x M' J' => J' = J ∧ cI M' ∧ (((h < 0 ∨ 12 ≤ h ∨ net < 0 ∨ 3 ≤ net ∨ o < 0 ∨ M (nA net) 5 ≤ o) ∧ x = -1 ∧ M' = M) ∨ (¬ (h < 0 ∨ 12 ≤ h ∨ net < 0 ∨ 3 ≤ net ∨ o < 0 ∨ M (nA net) 5 ≤ o) ∧ bfQ M h (M (nA net + 1)) (fun g c => M (nA net + 2) (3 * g + c)) (M 4) (M (nA net + 3) o) x M')))) := by
  refine ZN_of (L := [_, _, _, _]) (by decide) rfl rfl (Nat.le_of_ble_eq_true rfl) rfl (fun hav => ?_)
  refine Z_iload_n (n := 1) dX3_build_0 rfl rfl ?_
  refine Z_callSi (n := 4) [_] _ dX3_build_1 rfl cwX3_123 rfl rfl (Nat.le_of_ble_eq_true rfl) (by refine ⟨?_, ?_, ?_, ?_⟩ <;> exact Nat.le_of_ble_eq_true rfl) (fun _ _ => trivial) (zX3_isHandle  ) ?_
  intro x1 M1 J1 z1 f1 q1
  obtain ⟨e1_1, e1_2, h1⟩ := q1
  replace e1_1 := e1_1.symm; subst e1_1
  replace e1_2 := e1_2.symm; subst e1_2
  refine Z_if_eq (n := 7) (t := 27) dX3_build_4 rfl (by decide) (fun c4 => ?_) (fun c4 => ?_)
  · refine Z_iconst (n := 28) dX3_build_27 rfl (by decide) ?_
    refine Z_iret dX3_build_28 rfl ?_
    exact ⟨rfl, hc, Or.inl ⟨by omega, rfl, rfl⟩⟩
  · refine Z_iload_n (n := 8) dX3_build_7 rfl rfl ?_
    refine Z_callSi (n := 11) [_] _ dX3_build_8 rfl cwX3_62 rfl rfl (Nat.le_of_ble_eq_true rfl) (by refine ⟨?_, ?_, ?_, ?_⟩ <;> exact Nat.le_of_ble_eq_true rfl) (fun _ _ => trivial) (zX3_isNet  ) ?_
    intro x8 M8 J8 z8 f8 q8
    obtain ⟨e8_1, e8_2, h8⟩ := q8
    replace e8_1 := e8_1.symm; subst e8_1
    replace e8_2 := e8_2.symm; subst e8_2
    refine Z_if_eq (n := 14) (t := 27) dX3_build_11 rfl (by decide) (fun c11 => ?_) (fun c11 => ?_)
    · refine Z_iconst (n := 28) dX3_build_27 rfl (by decide) ?_
      refine Z_iret dX3_build_28 rfl ?_
      exact ⟨rfl, hc, Or.inl ⟨by omega, rfl, rfl⟩⟩
    · refine Z_aload_n (n := 15) dX3_build_14 rfl rfl ?_
      refine Z_getA (n := 18) dX3_build_15 rfl ffX3_11 (by first | rfl | exact nS0 (nA_at (by omega) (by omega))) (by first | rfl | exact nS0 (nA_at (by omega) (by omega))) ?_
      refine Z_iload_n (n := 19) dX3_build_18 rfl rfl ?_
      refine Z_aald (n := 20) dX3_build_19 rfl (by first | rfl | exact nS0 (nA_at (by omega) (by omega))) (by decide) (by omega) (by omega) (nA_P (by omega) (by omega)) ?_
      refine Z_iload_n (n := 21) dX3_build_20 rfl rfl ?_
      refine Z_callVi (n := 24) [_] _ dX3_build_21 rfl cwX3_88 rfl rfl (by first | rfl | exact nS0 (nA_at (by omega) (by omega))) (Nat.le_of_ble_eq_true rfl) (by refine ⟨?_, ?_, ?_, ?_⟩ <;> exact Nat.le_of_ble_eq_true rfl) (fun _ _ => trivial) (zX0_hasOutput  (by exact nA_at (by omega) (by omega))) ?_
      intro x21 M21 J21 z21 f21 q21
      obtain ⟨e21_1, e21_2, h21⟩ := q21
      replace e21_1 := e21_1.symm; subst e21_1
      replace e21_2 := e21_2.symm; subst e21_2
      refine Z_if_ne (n := 27) (t := 29) dX3_build_24 rfl (by decide) (fun c24 => ?_) (fun c24 => ?_)
      · refine Z_aload_n (n := 30) dX3_build_29 rfl rfl ?_
        refine Z_callVv (n := 33) [] _ dX3_build_30 rfl cwX3_126 rfl rfl (by first | rfl | exact nS0 (nA_at (by omega) (by omega))) (Nat.le_of_ble_eq_true rfl) (by refine ⟨?_, ?_, ?_, ?_⟩ <;> exact Nat.le_of_ble_eq_true rfl) (fun _ h => h) (zX3_beginSteps  (by decide)) ?_
        intro M30 J30 f30 q30
        obtain ⟨e30_1, e30_2⟩ := q30
        replace e30_1 := e30_1.symm; subst e30_1
        replace e30_2 := e30_2.symm; subst e30_2
        refine Z_nm (fun M30 e30 => ?_)
        have ob : ∀ a : Nat, ¬ a = 0 → M30 a = M a := fun a ha => by rw [e30]; exact uz_o ha
        have md0 : mid M M30 E0 := mid_0 hb ob (by rw [e30]; exact uz_n (by decide))
        have hdb : den M30 = den M := den_cg (ob 6 (by decide)) (ob 7 (by decide)) (ob 8 (by decide))
        have hOb : ordOK M30 := ordOK_fr hc.2.1 (ob 4 (by decide))
        have nb := mid_no md0
        obtain ⟨Sb, hSb, hRb⟩ := md0.1
        have n07b : M30 0 7 = 0 := by rw [e30, uz_n (by decide)]; exact hb.2.2.2
        clear e30
        refine Z_aload_n (n := 34) dX3_build_33 rfl rfl ?_
        refine Z_iload_n (n := 35) dX3_build_34 rfl rfl ?_
        refine Z_aload_n (n := 36) dX3_build_35 rfl rfl ?_
        refine Z_aload_n (n := 37) dX3_build_36 rfl rfl ?_
        refine Z_getA (n := 40) dX3_build_37 rfl ffX3_11 (by first | rfl | exact nS0 (nA_at (by omega) (by omega))) (by first | rfl | exact nS0 (nA_at (by omega) (by omega))) ?_
        refine Z_iload_n (n := 41) dX3_build_40 rfl rfl ?_
        refine Z_aald (n := 42) dX3_build_41 rfl (by first | rfl | exact nS0 (nA_at (by omega) (by omega))) (by decide) (by omega) (by omega) (nA_P (by omega) (by omega)) ?_
        refine Z_iload_n (n := 43) dX3_build_42 rfl rfl ?_
        refine Z_callVi (n := 46) [_, _] _ dX3_build_43 rfl cwX3_129 rfl rfl (by first | rfl | exact nS0 (nA_at (by omega) (by omega))) (Nat.le_of_ble_eq_true rfl) (by refine ⟨?_, ?_, ?_, ?_⟩ <;> exact Nat.le_of_ble_eq_true rfl) (fun a h => by unfold kFc at h; unfold kStep; omega) (zX3_building_f  (by exact nA_at (by omega) (by omega)) (by exact netOK_fr (cI_net hc (nA_at (by omega) (by omega))) (ob _ (by unfold nA; omega)) (ob _ (by unfold nA; omega)) (ob _ (by unfold nA; omega)) (ob _ (by unfold nA; omega))) (by omega) (by rw [ob _ (by unfold nA; omega)]; omega) (by exact hOb) (by exact hb) (by exact md0) (by exact fun x a b => by rw [ob 13 (by decide)]; exact hb.2.2.1 x a b) (by rw [n07b]; decide)) ?_
        intro x43 M43 J43 z43 f43 q43
        obtain ⟨e43_1, xb43, k743, bx43⟩ := q43
        replace e43_1 := e43_1.symm; subst e43_1
        rw [ob 4 (by decide), ob (nA net + 1) (by unfold nA; omega), ob (nA net + 2) (by unfold nA; omega), ob (nA net + 3) (by unfold nA; omega)] at bx43
        obtain ⟨L, ls43, bq43⟩ := bx43
        obtain ⟨E1', md1, okx, dx, S1, hS1, hR1, hx1⟩ := bd_fin bq43
        refine Z_callVi (n := 49) [_, _] _ dX3_build_46 rfl cwX3_133 rfl rfl (by first | rfl | exact nS0 (nA_at (by omega) (by omega))) (Nat.le_of_ble_eq_true rfl) (by refine ⟨?_, ?_, ?_, ?_⟩ <;> exact Nat.le_of_ble_eq_true rfl) (fun a h => by unfold kFc at h; unfold kGive; omega) (zX3_give_f  (by omega) (by omega) (by exact hS1.1) (by exact hx1)) ?_
        intro x46 M46 J46 z46 f46 q46
        obtain ⟨e46_1, ng46, gv46⟩ := q46
        replace e46_1 := e46_1.symm; subst e46_1
        refine Z_fr (fun frR => ?_)
        have fq := fin_mk md1 (by omega) (by omega) hS1 hR1 hx1 okx dx (fun a h1 h2 h3 h4 => (f46 a ⟨h1, h2, h3, h4⟩).1) ng46 gv46
        refine Z_iret dX3_build_49 rfl ?_
        exact ⟨rfl, cI_fin hc fq frR, Or.inr ⟨by omega, L, ls43, fq⟩⟩
      · refine Z_iconst (n := 28) dX3_build_27 rfl (by decide) ?_
        refine Z_iret dX3_build_28 rfl ?_
        exact ⟨rfl, hc, Or.inl ⟨by omega, rfl, rfl⟩⟩
end
section
/-! ===== the reference: needs, as the last need ===== -/
/-- the reference's last needs -/
def lrF (M : zM) (g : Int) : Int → Int := fun x => if x = g then g else M 56 x
def rlN (M : zM) (L : Int → Int) : Prop := ∀ x : Int, 0 ≤ x → x < 40 → (¬ M 55 x = 0 ↔ ¬ L x = -1)
def rlP (M : zM) (kd : Int → Int) (od : Int → Int → Int) (g k c : Int) : Prop := lnP kd od g (lrF M g) k c ∧ rlN M (lrF M g)
theorem rl_dn {M : zM} {kd : Int → Int} {od : Int → Int → Int} {g k c : Int} (h : rlP M kd od g k c) (k0 : 0 ≤ k) (k1 : k < 40) (hc : M 55 k = 0 ∨ opF (kd k) ≤ c) : rlP M kd od g (k - 1) 0 := by
  refine ⟨lnP_dn h.1 ?_, h.2⟩
  rcases hc with z | z
  · left
    by_cases q : lrF M g k = -1
    · exact q
    · exact absurd z ((h.2 k k0 k1).mpr q)
  · exact Or.inr z
theorem rl_st {M : zM} {kd : Int → Int} {od : Int → Int → Int} {g k c x v : Int} (h : rlP M kd od g k c) (hk : ¬ M 55 k = 0) (kg : k ≤ g) (c0 : 0 ≤ c) (c1 : c < opF (kd k)) (hx : od k c = x) (x0 : 0 ≤ x) (xk : x < k) (g1 : g < 40) (rg : -1 ≤ M 56 x) (hv : (M 56 x < 0 ∧ v = k) ∨ (0 ≤ M 56 x ∧ v = M 56 x)) : rlP (uz (uz M 55 x 1) 56 x v) kd od g k (c + 1) := by
  have hkL : ¬ lrF M g k = -1 := (h.2 k (by omega) (by omega)).mp hk
  have ex : lrF M g x = M 56 x := if_neg (by omega)
  have e55 : ∀ y : Int, uz (uz M 55 x 1) 56 x v 55 y = if y = x then 1 else M 55 y := fun y => by rw [uz_oo (by decide), uz_a]
  rcases hv with ⟨a, b⟩ | ⟨a, b⟩
  · have e : lrF (uz (uz M 55 x 1) 56 x v) g = updI (lrF M g) x k := by
      funext j
      unfold lrF updI
      rw [uz_a, uz_oo (by decide)]
      by_cases e1 : j = x
      · rw [if_neg (show ¬ j = g by omega), if_pos e1, if_pos e1, b]
      · rw [if_neg e1, if_neg e1]
    refine ⟨lnP_st h.1 hkL kg c0 c1 hx x0 xk g1 (Or.inl ⟨by omega, e⟩), fun y y0 y1 => ?_⟩
    rw [e55, e]
    by_cases e1 : y = x
    · rw [if_pos e1, e1, updI_s]
      exact ⟨fun _ => by omega, fun _ => by decide⟩
    · rw [if_neg e1, updI_n e1]
      exact h.2 y y0 y1
  · have e : lrF (uz (uz M 55 x 1) 56 x v) g = lrF M g := by
      funext j
      unfold lrF
      rw [uz_a, uz_oo (by decide)]
      by_cases e1 : j = x
      · rw [if_neg (show ¬ j = g by omega), if_pos e1, if_neg (show ¬ j = g by omega), b, e1]
      · rw [if_neg e1]
    refine ⟨lnP_st h.1 hkL kg c0 c1 hx x0 xk g1 (Or.inr ⟨by omega, e⟩), fun y y0 y1 => ?_⟩
    rw [e55, e]
    by_cases e1 : y = x
    · rw [if_pos e1, e1]
      exact ⟨fun _ => by omega, fun _ => by decide⟩
    · rw [if_neg e1]
      exact h.2 y y0 y1
/-- the reference lets go of those that gate k needed last -/
theorem hn_ref {kd : Int → Int} {od : Int → Int → Int} {g k : Int} {L : Int → Int} (h : lnS kd od g L) (g1 : g < 40) (k0 : 0 ≤ k) (k1 : k ≤ g) (hk : ¬ L k = -1) (z : Int) : hnd L g (k + 1) z ↔ ((hnd L g k z ∨ z = k) ∧ ¬ (z < k ∧ L z = k)) := by
  constructor
  · rintro ⟨a, b, c⟩
    by_cases e : z = k
    · exact ⟨Or.inr e, fun q => by omega⟩
    · exact ⟨Or.inl ⟨by omega, b, by omega⟩, fun q => by omega⟩
  · rintro ⟨a | a, b⟩
    · obtain ⟨a1, a2, a3⟩ := a
      exact ⟨by omega, a2, by omega⟩
    · have q := lnS_in h (x := z) (by omega) (by omega) (by rw [a]; exact hk)
      exact ⟨by omega, by rw [a]; exact hk, by omega⟩
set_option maxRecDepth 20000 in
theorem zX4_needs_g {G : tl_G} {M : zM} {J : zJ} {net g : Int} (n0 : 0 ≤ net) (n1 : net < 3) (g0 : 0 ≤ g) (g1 : g < M 32 net) (hN : rNt M net) : ZN G yX4_needs mX4_needs 1 kNd [vR 31, vI net, vI g] F1 M J (qV (fun M' J' => J' = J ∧ ndQ M' g ∧ lnS (fun k => M 34 (40 * net + k)) (fun k c => M 35 (3 * (40 * net + k) + c)) g (lrF M' g) ∧ rlN M' (lrF M' g))) := by
  refine ZN_of (L := [_, _, _, _, _, _, _]) (by decide) rfl rfl (Nat.le_of_ble_eq_true rfl) rfl (fun hav => ?_)
  refine Z_rg 32 net rfl (fun g32 g32b => ?_)
  refine Z_iconst (n := 1) dX4_needs_0 rfl (by decide) ?_
  refine Z_istore_n (L' := [_, _, _, _, _, _, _]) (n := 2) dX4_needs_1 rfl (by decide) rfl rfl ?_
  have lp2 : ∀ (N2 : Nat) (k : Int) (M2 : zM) (J2 : zJ), ((40 - k).toNat) < N2 → (J2 = J) → (0 ≤ k) → (k ≤ 40) → (∀ x : Int, 0 ≤ x → x < k → ((x = g ∧ M2 55 x = 1) ∨ (x ≠ g ∧ M2 55 x = 0)) ∧ M2 56 x = -1) → TZ G mX4_needs (tl_rm 1 0 0) 0 0 kNd M J 2 [some (vR 31), some (vI net), some (vI g), some (vI k), none, none, none] [] F1 M2 J2 (ZM G (zPost G kNd F1 M J (qV (fun M' J' => J' = J ∧ ndQ M' g ∧ lnS (fun k => M 34 (40 * net + k)) (fun k c => M 35 (3 * (40 * net + k) + c)) g (lrF M' g) ∧ rlN M' (lrF M' g)))) 0 0) := by
    intro N2
    induction N2 with
    | zero => intro k M2 J2 hN; omega
    | succ N2 ih2 =>
      intro k M2 J2 hN2 i2_0 i2_1 i2_2 i2_3
      refine Z_iload_n (n := 3) dX4_needs_2 rfl rfl ?_
      refine Z_bipush (n := 5) dX4_needs_3 rfl (by decide) (by decide) ?_
      refine Z_icmp_ge (n := 8) (t := 37) dX4_needs_5 rfl (by decide) (fun c5 => ?_) (fun c5 => ?_)
      · have st39 : ndQ M2 g := by
          refine ⟨by have := i2_3 g (by omega) (by omega); omega, fun x x0 x1 => ?_⟩
          have := i2_3 x x0 (by omega)
          exact ⟨fun q => by omega, fun q => by omega⟩
        have st39r : rlP M2 (fun k => M 34 (40 * net + k)) (fun k c => M 35 (3 * (40 * net + k) + c)) g g 0 := by
          refine ⟨lnP_0 (if_pos rfl) (fun x a b e => ?_), fun x a b => ?_⟩
          · unfold lrF
            rw [if_neg e]
            exact (i2_3 x a (by omega)).2
          · have z := i2_3 x a (by omega)
            unfold lrF
            by_cases e : x = g
            · rw [if_pos e]; exact ⟨fun _ => by omega, fun _ => by omega⟩
            · rw [if_neg e]; exact ⟨fun _ => by omega, fun _ => by omega⟩
        refine Z_iload_n (n := 38) dX4_needs_37 rfl rfl ?_
        refine Z_istore_n (L' := [_, _, _, _, _, _, _]) (n := 39) dX4_needs_38 rfl (by decide) rfl rfl ?_
        have lp39 : ∀ (N39 : Nat) (k : Int) (M39 : zM) (J39 : zJ), ((k + 1).toNat) < N39 → (J39 = J) → (-1 ≤ k) → (k ≤ g) → (ndQ M39 g) → (rlP M39 (fun k => M 34 (40 * net + k)) (fun k c => M 35 (3 * (40 * net + k) + c)) g k 0) → TZ G mX4_needs (tl_rm 1 0 0) 0 0 kNd M J 39 [some (vR 31), some (vI net), some (vI g), some (vI k), none, none, none] [] F1 M39 J39 (ZM G (zPost G kNd F1 M J (qV (fun M' J' => J' = J ∧ ndQ M' g ∧ lnS (fun k => M 34 (40 * net + k)) (fun k c => M 35 (3 * (40 * net + k) + c)) g (lrF M' g) ∧ rlN M' (lrF M' g)))) 0 0) := by
          intro N39
          induction N39 with
          | zero => intro k M39 J39 hN; omega
          | succ N39 ih39 =>
            intro k M39 J39 hN39 i39_0 i39_1 i39_2 i39_3 i39_4
            refine Z_iload_n (n := 40) dX4_needs_39 rfl rfl ?_
            refine Z_if_lt (n := 43) (t := 140) dX4_needs_40 rfl (by decide) (fun c40 => ?_) (fun c40 => ?_)
            · refine Z_vret dX4_needs_140 rfl ?_
              refine ⟨i39_0, i39_3, ?_⟩
              have q := i39_4
              rw [show k = -1 by omega] at q
              exact ⟨lnP_end q.1, q.2⟩
            · refine Z_bipush (n := 45) dX4_needs_43 rfl (by decide) (by decide) ?_
              refine Z_iload_n (n := 46) dX4_needs_45 rfl rfl ?_
              refine Z_imul (n := 47) dX4_needs_46 rfl (by omega) ?_
              refine Z_iload_n (n := 48) dX4_needs_47 rfl rfl ?_
              refine Z_iadd (n := 49) dX4_needs_48 rfl (by omega) ?_
              refine Z_istore (L' := [_, _, _, _, _, _, _]) (n := 51) dX4_needs_49 rfl (by decide) rfl rfl ?_
              refine Z_iconst (n := 52) dX4_needs_51 rfl (by decide) ?_
              refine Z_istore (L' := [_, _, _, _, _, _, _]) (n := 54) dX4_needs_52 rfl (by decide) rfl rfl ?_
              have lp54 : ∀ (N54 : Nat) (c : Int) (M54 : zM) (J54 : zJ), ((3 - c).toNat) < N54 → (J54 = J) → (0 ≤ c) → (c ≤ 3) → (ndQ M54 g) → (rlP M54 (fun k => M 34 (40 * net + k)) (fun k c => M 35 (3 * (40 * net + k) + c)) g k c) → TZ G mX4_needs (tl_rm 1 0 0) 0 0 kNd M J 54 [some (vR 31), some (vI net), some (vI g), some (vI k), some (vI (40 * net + k)), some (vI c), none] [] F1 M54 J54 (ZM G (zPost G kNd F1 M J (qV (fun M' J' => J' = J ∧ ndQ M' g ∧ lnS (fun k => M 34 (40 * net + k)) (fun k c => M 35 (3 * (40 * net + k) + c)) g (lrF M' g) ∧ rlN M' (lrF M' g)))) 0 0) := by
                intro N54
                induction N54 with
                | zero => intro c M54 J54 hN; omega
                | succ N54 ih54 =>
                  intro c M54 J54 hN54 i54_0 i54_1 i54_2 i54_3 i54_4
                  refine Z_iload (n := 56) dX4_needs_54 rfl rfl ?_
                  refine Z_fr (fun fr54 => ?_)
                  refine Z_rg 34 (40 * net + k) rfl (fun g34 g34b => ?_)
                  have hop3 := opF_in (M54 34 (40 * net + k))
                  have e34 : M54 34 (40 * net + k) = M 34 (40 * net + k) := congrFun (fr54 34 (by decide)).1 _
                  refine Z_aload_n (n := 57) dX4_needs_56 rfl rfl ?_
                  refine Z_getA (n := 60) dX4_needs_57 rfl ffX4_16 rfl rfl ?_
                  refine Z_iload (n := 62) dX4_needs_60 rfl rfl ?_
                  refine Z_iald (n := 63) dX4_needs_62 rfl rfl rfl (by first | decide | assumption) (by omega) (by omega) (fun r62 s62 => ?_)
                  refine Z_callSi (n := 66) [_] _ dX4_needs_63 rfl cwX4_120 rfl rfl (Nat.le_of_ble_eq_true rfl) (by refine ⟨?_, ?_, ?_, ?_⟩ <;> exact Nat.le_of_ble_eq_true rfl) (fun _ _ => trivial) (zX4_wants  ) ?_
                  intro x63 M63 J63 z63 f63 q63
                  obtain ⟨e63_1, e63_2, h63⟩ := q63
                  replace e63_1 := e63_1.symm; subst e63_1
                  replace e63_2 := e63_2.symm; subst e63_2
                  refine Z_icmp_ge (n := 69) (t := 134) dX4_needs_66 rfl (by decide) (fun c66 => ?_) (fun c66 => ?_)
                  · have nr : ∀ q : Int, q = k - 1 → rlP M54 (fun k => M 34 (40 * net + k)) (fun k c => M 35 (3 * (40 * net + k) + c)) g q 0 := fun q e => by
                      rw [e]
                      exact rl_dn i54_4 (by omega) (by omega) (Or.inr (by show opF (M 34 (40 * net + k)) ≤ c; rw [← e34]; omega))
                    refine Z_iinc (L' := [_, _, _, _, _, _, _]) (n := 137) dX4_needs_134 rfl rfl (by decide) rfl rfl (by omega) rfl ?_
                    refine Z_goto (t := 39) dX4_needs_137 (by decide) ?_
                    refine Z_loc (L' := [some _, some _, some _, some _, none, none, none]) (lsub_same (lsub_same (lsub_same (lsub_same (lsub_none (lsub_none (lsub_none lsub_nil))))))) ?_
                    exact ih39 _ _ _ (by omega) (by first | rfl | assumption) (by first | assumption | omega | decide) (by first | assumption | omega | decide) (by exact i54_3) (by exact nr _ (by omega))
                  · refine Z_aload_n (n := 70) dX4_needs_69 rfl rfl ?_
                    refine Z_getA (n := 73) dX4_needs_70 rfl ffX4_93 rfl rfl ?_
                    refine Z_iload_n (n := 74) dX4_needs_73 rfl rfl ?_
                    refine Z_zald (n := 75) dX4_needs_74 rfl rfl rfl (by first | decide | assumption) (by omega) (by omega) (fun r74 s74 => ?_)
                    refine Z_if_eq (n := 78) (t := 134) dX4_needs_75 rfl (by decide) (fun c75 => ?_) (fun c75 => ?_)
                    · have nr : ∀ q : Int, q = k - 1 → rlP M54 (fun k => M 34 (40 * net + k)) (fun k c => M 35 (3 * (40 * net + k) + c)) g q 0 := fun q e => by
                        rw [e]
                        exact rl_dn i54_4 (by omega) (by omega) (Or.inl c75)
                      refine Z_iinc (L' := [_, _, _, _, _, _, _]) (n := 137) dX4_needs_134 rfl rfl (by decide) rfl rfl (by omega) rfl ?_
                      refine Z_goto (t := 39) dX4_needs_137 (by decide) ?_
                      refine Z_loc (L' := [some _, some _, some _, some _, none, none, none]) (lsub_same (lsub_same (lsub_same (lsub_same (lsub_none (lsub_none (lsub_none lsub_nil))))))) ?_
                      exact ih39 _ _ _ (by omega) (by first | rfl | assumption) (by first | assumption | omega | decide) (by first | assumption | omega | decide) (by exact i54_3) (by exact nr _ (by omega))
                    · refine Z_aload_n (n := 79) dX4_needs_78 rfl rfl ?_
                      refine Z_getA (n := 82) dX4_needs_79 rfl ffX4_19 rfl rfl ?_
                      refine Z_iconst (n := 83) dX4_needs_82 rfl (by decide) ?_
                      refine Z_iload (n := 85) dX4_needs_83 rfl rfl ?_
                      refine Z_imul (n := 86) dX4_needs_85 rfl (by omega) ?_
                      refine Z_iload (n := 88) dX4_needs_86 rfl rfl ?_
                      refine Z_iadd (n := 89) dX4_needs_88 rfl (by omega) ?_
                      refine Z_iald (n := 90) dX4_needs_89 rfl rfl rfl (by first | decide | assumption) (by omega) (by omega) (fun r89 s89 => ?_)
                      refine Z_istore (L' := [_, _, _, _, _, _, _]) (n := 92) dX4_needs_90 rfl (by decide) rfl rfl ?_
                      obtain ⟨x, hx⟩ : ∃ x, x = M54 35 (3 * (40 * net + k) + c) := ⟨_, rfl⟩
                      rw [← hx] at r89 s89 ⊢
                      have e35 : x = M 35 (3 * (40 * net + k) + c) := by rw [hx, congrFun (fr54 35 (by decide)).1 _]
                      have hi : c < opF (M 34 (40 * net + k)) := by rw [← e34, ← h63]; omega
                      have hop := (hN.1 k (by omega) (by omega)).1 c (by omega) hi
                      rw [← e35] at hop
                      refine Z_rg 56 x rfl (fun g56 g56b => ?_)
                      refine Z_aload_n (n := 93) dX4_needs_92 rfl rfl ?_
                      refine Z_getA (n := 96) dX4_needs_93 rfl ffX4_93 rfl rfl ?_
                      refine Z_iload (n := 98) dX4_needs_96 rfl rfl ?_
                      refine Z_iconst (n := 99) dX4_needs_98 rfl (by decide) ?_
                      refine Z_zast (n := 100) dX4_needs_99 rfl rfl rfl (by first | decide | assumption) (by omega) (by omega) (by first | assumption | omega | decide) (by first | assumption | omega | decide) (by decide) ?_
                      refine Z_aload_n (n := 101) dX4_needs_100 rfl rfl ?_
                      refine Z_getA (n := 104) dX4_needs_101 rfl ffX4_96 rfl rfl ?_
                      refine Z_iload (n := 106) dX4_needs_104 rfl rfl ?_
                      refine Z_aload_n (n := 107) dX4_needs_106 rfl rfl ?_
                      refine Z_getA (n := 110) dX4_needs_107 rfl ffX4_96 rfl rfl ?_
                      refine Z_iload (n := 112) dX4_needs_110 rfl rfl ?_
                      refine Z_iald (n := 113) dX4_needs_112 rfl rfl rfl (by first | decide | assumption) (by omega) (by omega) (fun r112 s112 => ?_)
                      try simp only [uz_oo (show (56 : Nat) ≠ 55 by decide)] at r112 s112 ⊢
                      refine Z_if_ge (n := 116) (t := 120) dX4_needs_113 rfl (by decide) (fun c113 => ?_) (fun c113 => ?_)
                      · refine Z_aload_n (n := 121) dX4_needs_120 rfl rfl ?_
                        refine Z_getA (n := 124) dX4_needs_121 rfl ffX4_96 rfl rfl ?_
                        refine Z_iload (n := 126) dX4_needs_124 rfl rfl ?_
                        refine Z_iald (n := 127) dX4_needs_126 rfl rfl rfl (by first | decide | assumption) (by omega) (by omega) (fun r126 s126 => ?_)
                        try simp only [uz_oo (show (56 : Nat) ≠ 55 by decide)] at r126 s126 ⊢
                        refine Z_iast (n := 128) dX4_needs_127 rfl rfl rfl (by first | decide | assumption) (by omega) (by omega) (by first | assumption | omega | decide) (by first | assumption | omega | decide) (by decide) ?_
                        have nx54 : ndQ (uz (uz M54 55 x 1) 56 x _) g := ndQ_st i54_3 hop.2 i39_2 c75 hop.1 (by omega) (by first | exact Or.inl ⟨by omega, rfl⟩ | exact Or.inr ⟨by omega, rfl⟩)
                        have nxr : rlP (uz (uz M54 55 x 1) 56 x _) (fun k => M 34 (40 * net + k)) (fun k c => M 35 (3 * (40 * net + k) + c)) g k (c + 1) := rl_st i54_4 c75 i39_2 (by omega) hi e35.symm hop.1 hop.2 (by omega) (by omega) (by first | exact Or.inl ⟨by omega, rfl⟩ | exact Or.inr ⟨by omega, rfl⟩)
                        refine Z_iinc (L' := [_, _, _, _, _, _, _]) (n := 131) dX4_needs_128 rfl rfl (by decide) rfl rfl (by omega) rfl ?_
                        refine Z_goto (t := 54) dX4_needs_131 (by decide) ?_
                        refine Z_loc (L' := [some _, some _, some _, some _, some _, some _, none]) (lsub_same (lsub_same (lsub_same (lsub_same (lsub_same (lsub_same (lsub_none lsub_nil))))))) ?_
                        exact ih54 _ _ _ (by omega) (by first | rfl | assumption) (by first | assumption | omega | decide) (by first | assumption | omega | decide) (by exact nx54) (by exact nxr)
                      · refine Z_iload_n (n := 117) dX4_needs_116 rfl rfl ?_
                        refine Z_goto (t := 127) dX4_needs_117 (by decide) ?_
                        refine Z_iast (n := 128) dX4_needs_127 rfl rfl rfl (by first | decide | assumption) (by omega) (by omega) (by first | assumption | omega | decide) (by first | assumption | omega | decide) (by decide) ?_
                        have nx54 : ndQ (uz (uz M54 55 x 1) 56 x _) g := ndQ_st i54_3 hop.2 i39_2 c75 hop.1 (by omega) (by first | exact Or.inl ⟨by omega, rfl⟩ | exact Or.inr ⟨by omega, rfl⟩)
                        have nxr : rlP (uz (uz M54 55 x 1) 56 x _) (fun k => M 34 (40 * net + k)) (fun k c => M 35 (3 * (40 * net + k) + c)) g k (c + 1) := rl_st i54_4 c75 i39_2 (by omega) hi e35.symm hop.1 hop.2 (by omega) (by omega) (by first | exact Or.inl ⟨by omega, rfl⟩ | exact Or.inr ⟨by omega, rfl⟩)
                        refine Z_iinc (L' := [_, _, _, _, _, _, _]) (n := 131) dX4_needs_128 rfl rfl (by decide) rfl rfl (by omega) rfl ?_
                        refine Z_goto (t := 54) dX4_needs_131 (by decide) ?_
                        refine Z_loc (L' := [some _, some _, some _, some _, some _, some _, none]) (lsub_same (lsub_same (lsub_same (lsub_same (lsub_same (lsub_same (lsub_none lsub_nil))))))) ?_
                        exact ih54 _ _ _ (by omega) (by first | rfl | assumption) (by first | assumption | omega | decide) (by first | assumption | omega | decide) (by exact nx54) (by exact nxr)
              refine Z_loc (L' := [some _, some _, some _, some _, some _, some _, none]) (lsub_same (lsub_same (lsub_same (lsub_same (lsub_same (lsub_same (lsub_none lsub_nil))))))) ?_
              exact lp54 _ _ _ _ (Nat.lt_succ_self _) (by first | rfl | assumption) (by first | assumption | omega | decide) (by first | assumption | omega | decide) (by exact i39_3) (by exact i39_4)
        refine Z_loc (L' := [some _, some _, some _, some _, none, none, none]) (lsub_same (lsub_same (lsub_same (lsub_same (lsub_none (lsub_none (lsub_none lsub_nil))))))) ?_
        exact lp39 _ _ _ _ (Nat.lt_succ_self _) (by first | rfl | assumption) (by first | assumption | omega | decide) (by first | assumption | omega | decide) (by exact st39) (by exact st39r)
      · refine Z_aload_n (n := 9) dX4_needs_8 rfl rfl ?_
        refine Z_getA (n := 12) dX4_needs_9 rfl ffX4_93 rfl rfl ?_
        refine Z_iload_n (n := 13) dX4_needs_12 rfl rfl ?_
        refine Z_iload_n (n := 14) dX4_needs_13 rfl rfl ?_
        refine Z_iload_n (n := 15) dX4_needs_14 rfl rfl ?_
        refine Z_icmp_ne (n := 18) (t := 22) dX4_needs_15 rfl (by decide) (fun c15 => ?_) (fun c15 => ?_)
        · have nx2b : ∀ x : Int, 0 ≤ x → x < k + 1 → ((x = g ∧ uz (uz M2 55 k 0) 56 k (-1) 55 x = 1) ∨ (x ≠ g ∧ uz (uz M2 55 k 0) 56 k (-1) 55 x = 0)) ∧ uz (uz M2 55 k 0) 56 k (-1) 56 x = -1 := fun x x0 x1 => by
            rw [uz_oo (show (55 : Nat) ≠ 56 by decide), uz_a, uz_a, uz_oo (show (56 : Nat) ≠ 55 by decide)]
            by_cases e : x = k
            · rw [if_pos e, if_pos e]; omega
            · rw [if_neg e, if_neg e]; exact i2_3 x x0 (by omega)
          refine Z_iconst (n := 23) dX4_needs_22 rfl (by decide) ?_
          refine Z_zast (n := 24) dX4_needs_23 rfl rfl rfl (by first | decide | assumption) (by omega) (by omega) (by first | assumption | omega | decide) (by first | assumption | omega | decide) (by decide) ?_
          refine Z_aload_n (n := 25) dX4_needs_24 rfl rfl ?_
          refine Z_getA (n := 28) dX4_needs_25 rfl ffX4_96 rfl rfl ?_
          refine Z_iload_n (n := 29) dX4_needs_28 rfl rfl ?_
          refine Z_iconst (n := 30) dX4_needs_29 rfl (by decide) ?_
          refine Z_iast (n := 31) dX4_needs_30 rfl rfl rfl (by first | decide | assumption) (by omega) (by omega) (by first | assumption | omega | decide) (by first | assumption | omega | decide) (by decide) ?_
          refine Z_iinc (L' := [_, _, _, _, _, _, _]) (n := 34) dX4_needs_31 rfl rfl (by decide) rfl rfl (by omega) rfl ?_
          refine Z_goto (t := 2) dX4_needs_34 (by decide) ?_
          refine Z_loc (L' := [some _, some _, some _, some _, none, none, none]) (lsub_same (lsub_same (lsub_same (lsub_same (lsub_none (lsub_none (lsub_none lsub_nil))))))) ?_
          exact ih2 _ _ _ (by omega) (by first | rfl | assumption) (by first | assumption | omega | decide) (by first | assumption | omega | decide) (by first | exact fun x x0 x1 => by omega | exact nx2a | exact nx2b)
        · refine Z_iconst (n := 19) dX4_needs_18 rfl (by decide) ?_
          have nx2a : ∀ x : Int, 0 ≤ x → x < k + 1 → ((x = g ∧ uz (uz M2 55 k 1) 56 k (-1) 55 x = 1) ∨ (x ≠ g ∧ uz (uz M2 55 k 1) 56 k (-1) 55 x = 0)) ∧ uz (uz M2 55 k 1) 56 k (-1) 56 x = -1 := fun x x0 x1 => by
            rw [uz_oo (show (55 : Nat) ≠ 56 by decide), uz_a, uz_a, uz_oo (show (56 : Nat) ≠ 55 by decide)]
            by_cases e : x = k
            · rw [if_pos e, if_pos e]; omega
            · rw [if_neg e, if_neg e]; exact i2_3 x x0 (by omega)
          refine Z_goto (t := 23) dX4_needs_19 (by decide) ?_
          refine Z_zast (n := 24) dX4_needs_23 rfl rfl rfl (by first | decide | assumption) (by omega) (by omega) (by first | assumption | omega | decide) (by first | assumption | omega | decide) (by decide) ?_
          refine Z_aload_n (n := 25) dX4_needs_24 rfl rfl ?_
          refine Z_getA (n := 28) dX4_needs_25 rfl ffX4_96 rfl rfl ?_
          refine Z_iload_n (n := 29) dX4_needs_28 rfl rfl ?_
          refine Z_iconst (n := 30) dX4_needs_29 rfl (by decide) ?_
          refine Z_iast (n := 31) dX4_needs_30 rfl rfl rfl (by first | decide | assumption) (by omega) (by omega) (by first | assumption | omega | decide) (by first | assumption | omega | decide) (by decide) ?_
          refine Z_iinc (L' := [_, _, _, _, _, _, _]) (n := 34) dX4_needs_31 rfl rfl (by decide) rfl rfl (by omega) rfl ?_
          refine Z_goto (t := 2) dX4_needs_34 (by decide) ?_
          refine Z_loc (L' := [some _, some _, some _, some _, none, none, none]) (lsub_same (lsub_same (lsub_same (lsub_same (lsub_none (lsub_none (lsub_none lsub_nil))))))) ?_
          exact ih2 _ _ _ (by omega) (by first | rfl | assumption) (by first | assumption | omega | decide) (by first | assumption | omega | decide) (by first | exact fun x x0 x1 => by omega | exact nx2a | exact nx2b)
  refine Z_loc (L' := [some _, some _, some _, some _, none, none, none]) (lsub_same (lsub_same (lsub_same (lsub_same (lsub_none (lsub_none (lsub_none lsub_nil))))))) ?_
  exact lp2 _ _ _ _ (Nat.lt_succ_self _) (by first | rfl | assumption) (by first | assumption | omega | decide) (by first | assumption | omega | decide) (by first | exact fun x x0 x1 => by omega | exact nx2a | exact nx2b)
end
section
/-! ===== the reference: builds, as functions ===== -/
/-- gates H are at hand in the reference -/
def rgI (M0 : zM) (J0 : zJ) (M : zM) (J : zJ) (F : Int → FN) (H : Int → Prop) : Prop := (∀ x : Int, 0 ≤ x → x < 40 → (¬ M 43 (12 + x) = 0 ↔ H x)) ∧ (∀ x : Int, 0 ≤ x → x < 40 → H x → phi J (12 + x) = F x) ∧ (∀ f : Int, (f < 12 ∨ 52 ≤ f) → f < 56 → M 43 f = M0 43 f) ∧ (∀ j : Int, (j < 48 ∨ 208 ≤ j) → J 44 j = J0 44 j) ∧ M 31 8 = M0 31 8
theorem rg_H {M0 M : zM} {J0 J : zJ} {F : Int → FN} {H H' : Int → Prop} (h : rgI M0 J0 M J F H) (e : ∀ x, H' x ↔ H x) : rgI M0 J0 M J F H' := by
  rw [show H' = H from funext (fun x => propext (e x))]
  exact h
theorem rg_lb {M0 M : zM} {J0 J : zJ} {F : Int → FN} {H : Int → Prop} (hh : ∀ y : Int, 0 ≤ y → y < 40 → M0 43 (12 + y) = 0) (h : rgI M0 J0 M J F H) (hH : ∀ x, H x → 0 ≤ x ∧ x < 40) (y : Lb) : LBr M J y ↔ (LBr M0 J0 y ∨ EH E0 F H y) := by
  obtain ⟨h1, h2, h3, h4, -⟩ := h
  have hp : ∀ f : Int, (f < 12 ∨ 52 ≤ f) → phi J f = phi J0 f := fun f hf => phi_cg (fun k k0 k1 => h4 _ (by omega))
  constructor
  · rintro ⟨f, fb, a, b⟩
    by_cases q : f < 12 ∨ 52 ≤ f
    · left
      rw [hp f q] at b
      exact ⟨f, fb, by rw [← h3 f q fb.2]; exact a, b⟩
    · right; right
      have e : 12 + (f - 12) = f := by omega
      have z := (h1 (f - 12) (by omega) (by omega)).mp (by rw [e]; exact a)
      have w := h2 (f - 12) (by omega) (by omega) z
      rw [e] at w
      exact ⟨f - 12, z, by rw [← w]; exact b⟩
  · rintro (⟨f, fb, a, b⟩ | w | ⟨x, a, b⟩)
    · have q : f < 12 ∨ 52 ≤ f := by
        by_cases q : f < 12 ∨ 52 ≤ f
        · exact q
        · have z := hh (f - 12) (by omega) (by omega)
          rw [show 12 + (f - 12) = f by omega] at z
          exact absurd z a
      exact ⟨f, fb, by rw [h3 f q fb.2]; exact a, by rw [hp f q]; exact b⟩
    · exact w.elim
    · have xb := hH x a
      exact ⟨12 + x, by omega, (h1 x xb.1 xb.2).mpr a, by rw [h2 x xb.1 xb.2 a]; exact b⟩
/-- gate k is made -/
theorem rg_st {M0 M M1 : zM} {J0 J J1 J2 : zJ} {F : Int → FN} {H : Int → Prop} {k : Int} (h : rgI M0 J0 M J F H) (k0 : 0 ≤ k) (k1 : k < 40) (hk : ¬ H k) (ah : ¬ M1 43 (12 + k) = 0) (af : adf M M1 (12 + k)) (vo : ∀ j : Int, (j < 4 * (12 + k) ∨ 4 * (12 + k) + 4 ≤ j) → J1 44 j = J 44 j) (e2 : J2 44 = J1 44) (hF : phi J1 (12 + k) = F k) : rgI M0 J0 M1 J2 F (fun x => H x ∨ x = k) := by
  obtain ⟨h1, h2, h3, h4, h5⟩ := h
  refine ⟨fun x a b => ?_, fun x a b c => ?_, fun f a b => ((af.1 f (by omega)).2).trans (h3 f a b), fun j hj => by rw [e2]; exact (vo j (by omega)).trans (h4 j hj), (af.2.2 8 (by decide) (by decide) (by decide) (by decide)).trans h5⟩
  · by_cases e : x = k
    · rw [e]; exact ⟨fun _ => Or.inr rfl, fun _ => ah⟩
    · rw [(af.1 (12 + x) (by omega)).2]
      exact ⟨fun q => Or.inl ((h1 x a b).mp q), fun q => (h1 x a b).mpr (q.resolve_right e)⟩
  · by_cases e : x = k
    · rw [e]; exact (phi_cg (fun i _ _ => by rw [e2])).trans hF
    · exact (phi_cg (fun i i0 i1 => by rw [e2]; exact vo _ (by omega))).trans (h2 x a b (c.resolve_right e))
/-- gate u is let go -/
theorem rg_rm {M0 M M1 : zM} {J0 J J1 : zJ} {F : Int → FN} {H : Int → Prop} {u : Int} (h : rgI M0 J0 M J F H) (u0 : 0 ≤ u) (u1 : u < 40) (ah : M1 43 (12 + u) = 0) (af : adf M M1 (12 + u)) (e2 : J1 44 = J 44) : rgI M0 J0 M1 J1 F (fun x => H x ∧ ¬ x = u) := by
  obtain ⟨h1, h2, h3, h4, h5⟩ := h
  refine ⟨fun x a b => ?_, fun x a b c => (phi_cg (fun i _ _ => by rw [e2])).trans (h2 x a b c.1), fun f a b => ((af.1 f (by omega)).2).trans (h3 f a b), fun j hj => by rw [e2]; exact h4 j hj, (af.2.2 8 (by decide) (by decide) (by decide) (by decide)).trans h5⟩
  by_cases e : x = u
  · rw [e]; exact ⟨fun q => absurd ah q, fun q => absurd rfl q.2⟩
  · rw [(af.1 (12 + x) (by omega)).2]
    exact ⟨fun q => ⟨(h1 x a b).mp q, e⟩, fun q => (h1 x a b).mpr q.1⟩
theorem op_a {x : Int} (q : ¬ x < 3) : 0 < opF x := by unfold opF; (repeat' split) <;> omega
theorem op_b {x : Int} (q : ¬ x ≤ 3) : 1 < opF x := by unfold opF; (repeat' split) <;> omega
theorem of_gst {kd a b a' b' c' : Int} (k0 : 0 < kd) (k1 : kd ≤ 9) (ha : ¬ kd < 3 → a = a') (hb : ¬ kd ≤ 3 → b = b') : tbl (tabF kd) (if kd < 3 then 0 else a) (if kd ≤ 3 then 0 else b) 0 = tbl (tabF kd) (if 0 < opF kd then a' else 0) (if 1 < opF kd then b' else 0) (if 2 < opF kd then c' else 0) := by
  have p : (0 < opF kd ↔ ¬ kd < 3) ∧ (1 < opF kd ↔ ¬ kd ≤ 3) ∧ ¬ 2 < opF kd := by
    rcases (show kd = 1 ∨ kd = 2 ∨ kd = 3 ∨ kd = 4 ∨ kd = 5 ∨ kd = 6 ∨ kd = 7 ∨ kd = 8 ∨ kd = 9 by omega) with q | q | q | q | q | q | q | q | q <;> subst q <;> decide
  rw [if_neg p.2.2]
  by_cases q : kd < 3
  · rw [if_pos q, if_neg (fun t => p.1.mp t q), if_pos (show kd ≤ 3 by omega), if_neg (fun t => p.2.1.mp t (by omega))]
  · rw [if_neg q, if_pos (p.1.mpr q), ha q]
    by_cases w : kd ≤ 3
    · rw [if_pos w, if_neg (fun t => p.2.1.mp t w)]
    · rw [if_neg w, if_pos (p.2.1.mpr w), hb w]
def okBr (M : zM) (J : zJ) (F : Int → FN) (L : Int → Int) (g : Int) : Prop := ∀ k : Int, 0 ≤ k → k ≤ g → ¬ L k = -1 → okR M J (EH E0 F (hnd L g k)) (F k)
def rbX (M : zM) (J : zJ) (kd : Int → Int) (od : Int → Int → Int) (pl : Int → Int) (g x : Int) (J' : zJ) : Prop := ∃ L : Int → Int, lnS kd od g L ∧ ((x = 1 ∧ okBr M J (gF kd od pl) L g ∧ phi J' (12 + g) = gF kd od pl g) ∨ (x = 0 ∧ ¬ okBr M J (gF kd od pl) L g))
set_option maxRecDepth 20000 in
theorem zX4_builds_g {G : tl_G} {M : zM} {J : zJ} {net g : Int} (n0 : 0 ≤ net) (n1 : net < 3) (g0 : 0 ≤ g) (g1 : g < M 32 net) (hN : rNt M net) (hT : TI M J) (hh : ∀ y : Int, 0 ≤ y → y < 40 → M 43 (12 + y) = 0) (hu : M 31 24 ≤ M 31 8) (hk : M 31 27 + 40 ≤ 2147483647) (hW : whOK J) (hO : rOrd M) : ZN G yX4_builds mX4_builds 4 kRg [vR 31, vI net, vI g] F1 M J (qI (fun x M' J' => TI M' J' ∧ hdl M M' ∧ M' 31 27 ≤ M 31 27 + 40 ∧ (∀ f : Int, 52 ≤ f → f < 56 → M' 43 f = M 43 f) ∧ (∀ j : Int, (j < 48 ∨ 208 ≤ j) → J' 44 j = J 44 j) ∧ ((x = 1 ∧ M' 31 24 ≤ M' 31 8 ∧ ¬ M' 43 (12 + g) = 0 ∧ ∀ y : Int, 0 ≤ y → y < 40 → y ≠ g → M' 43 (12 + y) = 0) ∨ x = 0) ∧ rbX M J (fun k => M 34 (40 * net + k)) (fun k c => M 35 (3 * (40 * net + k) + c)) (M 39) g x J')) := by
  refine ZN_of (L := [_, _, _, _, _, _, _]) (by decide) rfl rfl (Nat.le_of_ble_eq_true rfl) rfl (fun hav => ?_)
  refine Z_rg 32 net rfl (fun g32 g32b => ?_)
  refine Z_aload_n (n := 1) dX4_builds_0 rfl rfl ?_
  refine Z_iload_n (n := 2) dX4_builds_1 rfl rfl ?_
  refine Z_iload_n (n := 3) dX4_builds_2 rfl rfl ?_
  refine Z_callVv (n := 6) [_, _] _ dX4_builds_3 rfl cwX4_194 rfl rfl rfl (Nat.le_of_ble_eq_true rfl) (by refine ⟨?_, ?_, ?_, ?_⟩ <;> exact Nat.le_of_ble_eq_true rfl) (fun a h => by unfold kRg at h; unfold kNd; omega) (zX4_needs_g  (by omega) (by omega) (by omega) (by omega) (by exact hN)) ?_
  intro M3 J3 f3 q3
  obtain ⟨e3_1, nd3, ls3, ln3⟩ := q3
  replace e3_1 := e3_1.symm; subst e3_1
  have o3 : ∀ a : Nat, ¬ a = 55 → ¬ a = 56 → M3 a = M a := fun a h1 h2 => (f3 a ⟨h1, h2⟩).1
  have ti3 : TI M3 J := TI_fr hT (fun a ha => o3 a (by omega) (by omega))
  have hd3 : hdl M M3 := by unfold hdl; rw [o3 45 (by decide) (by decide), o3 43 (by decide) (by decide), o3 46 (by decide) (by decide), o3 31 (by decide) (by decide)]; exact hdl_0
  have us3 : M3 31 24 ≤ M3 31 8 := by rw [o3 31 (by decide) (by decide)]; exact hu
  have mk3 : M3 31 27 ≤ M 31 27 + 0 := by rw [o3 31 (by decide) (by decide)]; omega
  have hi3 : ∀ f : Int, 52 ≤ f → f < 56 → M3 43 f = M 43 f := fun f _ _ => by rw [o3 43 (by decide) (by decide)]
  have bi3 : ∀ j : Int, (j < 48 ∨ 208 ≤ j) → J 44 j = J 44 j := fun _ _ => rfl
  have bd3 : bdI M3 g 0 := fun x x0 x1 q => by rw [o3 43 (by decide) (by decide)] at q; exact absurd (hh x x0 x1) q
  obtain ⟨L, hL⟩ : ∃ L : Int → Int, L = lrF M3 g := ⟨_, rfl⟩
  rw [← hL] at ls3 ln3
  have rg3 : rgI M J M3 J (gF (fun k => M 34 (40 * net + k)) (fun k c => M 35 (3 * (40 * net + k) + c)) (M 39)) (hnd L g 0) := ⟨fun x a b => by rw [o3 43 (by decide) (by decide), hn_0]; exact ⟨fun q => q (hh x a b), False.elim⟩, fun x a b c => ((hn_0 x).mp c).elim, fun f _ _ => by rw [o3 43 (by decide) (by decide)], fun _ _ => rfl, by rw [o3 31 (by decide) (by decide)]⟩
  refine Z_iconst (n := 7) dX4_builds_6 rfl (by decide) ?_
  refine Z_istore_n (L' := [_, _, _, _, _, _, _]) (n := 8) dX4_builds_7 rfl (by decide) rfl rfl ?_
  have lp8 : ∀ (N8 : Nat) (k : Int) (M8 : zM) (J8 : zJ), ((g + 1 - k).toNat) < N8 → (0 ≤ k) → (k ≤ g + 1) → (TI M8 J8) → (ndQ M8 g) → (hdl M M8) → (M8 31 24 ≤ M8 31 8) → (M8 31 27 ≤ M 31 27 + k) → (∀ f : Int, 52 ≤ f → f < 56 → M8 43 f = M 43 f) → (∀ j : Int, (j < 48 ∨ 208 ≤ j) → J8 44 j = J 44 j) → (bdI M8 g k) → (k = g + 1 → ¬ M8 43 (12 + g) = 0) → (M8 55 = M3 55 ∧ M8 56 = M3 56) → (rgI M J M8 J8 (gF (fun k => M 34 (40 * net + k)) (fun k c => M 35 (3 * (40 * net + k) + c)) (M 39)) (hnd L g k)) → (∀ j : Int, 0 ≤ j → j < k → ¬ L j = -1 → okR M J (EH E0 (gF (fun k => M 34 (40 * net + k)) (fun k c => M 35 (3 * (40 * net + k) + c)) (M 39)) (hnd L g j)) ((gF (fun k => M 34 (40 * net + k)) (fun k c => M 35 (3 * (40 * net + k) + c)) (M 39)) j)) → TZ G mX4_builds (tl_rm 4 0 0) 0 0 kRg M J 8 [some (vR 31), some (vI net), some (vI g), some (vI k), none, none, none] [] F1 M8 J8 (ZM G (zPost G kRg F1 M J (qI (fun x M' J' => TI M' J' ∧ hdl M M' ∧ M' 31 27 ≤ M 31 27 + 40 ∧ (∀ f : Int, 52 ≤ f → f < 56 → M' 43 f = M 43 f) ∧ (∀ j : Int, (j < 48 ∨ 208 ≤ j) → J' 44 j = J 44 j) ∧ ((x = 1 ∧ M' 31 24 ≤ M' 31 8 ∧ ¬ M' 43 (12 + g) = 0 ∧ ∀ y : Int, 0 ≤ y → y < 40 → y ≠ g → M' 43 (12 + y) = 0) ∨ x = 0) ∧ rbX M J (fun k => M 34 (40 * net + k)) (fun k c => M 35 (3 * (40 * net + k) + c)) (M 39) g x J'))) 0 0) := by
    intro N8
    induction N8 with
    | zero => intro k M8 J8 hN; omega
    | succ N8 ih8 =>
      intro k M8 J8 hN8 i8_0 i8_1 i8_2 i8_3 i8_4 i8_5 i8_6 i8_7 i8_8 i8_9 i8_10 i8_11 i8_12 i8_13
      refine Z_iload_n (n := 9) dX4_builds_8 rfl rfl ?_
      refine Z_iload_n (n := 10) dX4_builds_9 rfl rfl ?_
      refine Z_icmp_gt (n := 13) (t := 259) dX4_builds_10 rfl (by decide) (fun c10 => ?_) (fun c10 => ?_)
      · refine Z_iconst (n := 260) dX4_builds_259 rfl (by decide) ?_
        refine Z_zret dX4_builds_260 rfl (by first | assumption | omega | decide) (by first | assumption | omega | decide) ?_
        have ek : k = g + 1 := by omega
        subst ek
        exact ⟨i8_2, i8_4, by omega, i8_7, i8_8, Or.inl ⟨rfl, i8_5, i8_10 rfl, bd_end i8_9 i8_3⟩, L, ls3, Or.inl ⟨rfl, fun j a b c => i8_13 j a (by omega) c, i8_12.2.1 g (by omega) (by omega) ((hn_end ls3 (by omega) (by omega) g).mpr rfl)⟩⟩
      · refine Z_aload_n (n := 14) dX4_builds_13 rfl rfl ?_
        refine Z_getA (n := 17) dX4_builds_14 rfl ffX4_93 rfl rfl ?_
        refine Z_iload_n (n := 18) dX4_builds_17 rfl rfl ?_
        refine Z_zald (n := 19) dX4_builds_18 rfl rfl rfl (by first | decide | assumption) (by omega) (by omega) (fun r18 s18 => ?_)
        refine Z_if_ne (n := 22) (t := 25) dX4_builds_19 rfl (by decide) (fun c19 => ?_) (fun c19 => ?_)
        · refine Z_fr (fun fr8 => ?_)
          have hN8 : rNt M8 net := rNt_fr hN (fr8 32 (by decide)).1 (fr8 33 (by decide)).1 (fr8 34 (by decide)).1 (fr8 35 (by decide)).1 (fr8 36 (by decide)).1
          have e32 : M8 32 net = M 32 net := congrFun (fr8 32 (by decide)).1 net
          have hgt := hN8.1 k (by omega) (by omega)
          have hk43 : M8 43 (12 + k) = 0 := by
            by_cases q : M8 43 (12 + k) = 0
            · exact q
            · have := (i8_9 k (by omega) (by omega) q).1; omega
          refine Z_rg 34 (40 * net + k) rfl (fun g34 g34b => ?_)
          refine Z_rg 31 8 rfl (fun g318 g318b => ?_)
          have ho0 : opF (M8 34 (40 * net + k)) > 0 → 0 ≤ M8 35 (3 * (40 * net + k)) ∧ M8 35 (3 * (40 * net + k)) < k := fun q => by
            have z := hgt.1 0 (by omega) (by omega)
            rw [Int.add_zero] at z
            exact z
          have ho1 := hgt.1 1 (by omega)
          have ho2 := hgt.1 2 (by omega)
          have hkL : ¬ L k = -1 := (ln3 k (by omega) (by omega)).mp (by rw [← i8_11.1]; exact c19)
          have e34 : M8 34 (40 * net + k) = M 34 (40 * net + k) := congrFun (fr8 34 (by decide)).1 _
          have e35 : ∀ j, M8 35 j = M 35 j := fun j => congrFun (fr8 35 (by decide)).1 j
          have hW8 : ∀ q : Int, 2 ≤ q → q ≤ 7 → J8 54 q = whF q := fun q a b => by rw [(fr8 54 (by decide)).2]; exact hW q a b
          have hat : ∀ c : Int, 0 ≤ c → c < opF (M 34 (40 * net + k)) → phi J8 (12 + M 35 (3 * (40 * net + k) + c)) = (gF (fun k => M 34 (40 * net + k)) (fun k c => M 35 (3 * (40 * net + k) + c)) (M 39)) (M 35 (3 * (40 * net + k) + c)) := fun c c0 c1 => by
            have z := (hN.1 k (by omega) (by omega)).1 c c0 c1
            exact i8_12.2.1 _ z.1 (by omega) (lnS_op ls3 (by omega) (by omega) hkL z.1 z.2 ⟨c, ⟨c0, c1⟩, rfl⟩)
          refine Z_ok (fun ok8 => ?_)
          refine Z_bipush (n := 27) dX4_builds_25 rfl (by decide) (by decide) ?_
          have ct197 : ∀  (M197 : zM) (J197 : zJ), (M197 = M8) → (J197 48 = J8 48) → (∀ j : Int, (j < 4 * (12 + k) ∨ 4 * (12 + k) + 4 ≤ j) → J197 44 j = J8 44 j) → (phi J197 (12 + k) = (gF (fun k => M 34 (40 * net + k)) (fun k c => M 35 (3 * (40 * net + k) + c)) (M 39)) k) → TZ G mX4_builds (tl_rm 4 0 0) 0 0 kRg M J 197 [some (vR 31), some (vI net), some (vI g), some (vI k), some (vI (40 * net + k)), some (vI (12 + k)), none] [] F1 M197 J197 (ZM G (zPost G kRg F1 M J (qI (fun x M' J' => TI M' J' ∧ hdl M M' ∧ M' 31 27 ≤ M 31 27 + 40 ∧ (∀ f : Int, 52 ≤ f → f < 56 → M' 43 f = M 43 f) ∧ (∀ j : Int, (j < 48 ∨ 208 ≤ j) → J' 44 j = J 44 j) ∧ ((x = 1 ∧ M' 31 24 ≤ M' 31 8 ∧ ¬ M' 43 (12 + g) = 0 ∧ ∀ y : Int, 0 ≤ y → y < 40 → y ≠ g → M' 43 (12 + y) = 0) ∨ x = 0) ∧ rbX M J (fun k => M 34 (40 * net + k)) (fun k c => M 35 (3 * (40 * net + k) + c)) (M 39) g x J'))) 0 0) := by
            intro  M197 J197 i197_0 i197_1 i197_2 i197_3
            replace i197_0 := i197_0.symm; subst i197_0
            have ti197 : TI M8 J197 := TI_bits i8_2 hk43 i197_1 i197_2
            clear ho0 ho1 ho2 hat hgt
            refine Z_ok (fun okz => ?_)
            refine Z_aload_n (n := 198) dX4_builds_197 rfl rfl ?_
            refine Z_iload (n := 200) dX4_builds_198 rfl rfl ?_
            refine Z_callVi (n := 203) [_] _ dX4_builds_200 rfl cwX4_207 rfl rfl rfl (Nat.le_of_ble_eq_true rfl) (by refine ⟨?_, ?_, ?_, ?_⟩ <;> exact Nat.le_of_ble_eq_true rfl) (fun a h => by unfold kRg at h; unfold kAd; omega) (zX4_steps  (by omega) (by omega) (by exact ti197) (by exact hk43) (by omega) (by omega)) ?_
            intro x200 M200 J200 z200 f200 q200
            obtain ⟨ti200, ah200, am200, au200, af200, xs200⟩ := q200
            have e200 : ∀ a : Nat, (a = 55 ∨ a = 56) → M200 a = M8 a := fun a ha => (f200 a (by unfold kAd; omega)).1
            have nd200 : ndQ M200 g := ndQ_fr i8_3 (e200 55 (by decide)) (e200 56 (by decide))
            have hd200 : hdl M M200 := hdl_t i8_4 (hdl_a af200 (by omega))
            have hi200 : ∀ f : Int, 52 ≤ f → f < 56 → M200 43 f = M 43 f := fun f a b => ((af200.1 f (by omega)).2).trans (i8_7 f a b)
            have bi200 : ∀ j : Int, (j < 48 ∨ 208 ≤ j) → J200 44 j = J 44 j := fun j hj => (congrFun (f200 44 (by decide)).2 j).trans ((i197_2 j (by omega)).trans (i8_8 j hj))
            have bj200 : bdJ M200 g k 0 := bdJ_0 i8_9 i8_3 (by omega) (by omega) (by omega) c19 (fun f hf => (af200.1 f hf).2) (e200 55 (by decide)) (e200 56 (by decide))
            refine Z_ok (fun okS => ?_)
            have hH8 : ∀ x, hnd L g k x → 0 ≤ x ∧ x < 40 := fun x hx => by have := hx.1; omega
            have hnk : ¬ hnd L g k k := fun q => by have := q.1; omega
            obtain ⟨so, -⟩ := st_ok (M := M) (J := J) (E := EH E0 (gF (fun k => M 34 (40 * net + k)) (fun k c => M 35 (3 * (40 * net + k) + c)) (M 39)) (hnd L g k)) (by omega) (by omega) ti200 okS ah200 af200 (f200 44 (by decide)).2 i8_12.2.2.2.2 (fun y => or_congr ((lbr_b hk43 i197_2 y).trans (rg_lb hh i8_12 hH8 y)) Iff.rfl) xs200
            rw [i197_3] at so
            have rg200 := rg_st i8_12 (by omega) (by omega) hnk ah200 af200 i197_2 (f200 44 (by decide)).2 i197_3
            refine Z_if_ne (n := 206) (t := 208) dX4_builds_203 rfl (by decide) (fun c203 => ?_) (fun c203 => ?_)
            · have us200 : M200 31 24 ≤ M200 31 8 := by omega
              have ok200 := (so.resolve_right (fun q => by omega)).2
              have n55 : M200 55 = M3 55 ∧ M200 56 = M3 56 := ⟨(e200 55 (by decide)).trans i8_11.1, (e200 56 (by decide)).trans i8_11.2⟩
              have rg200' : rgI M J M200 J200 (gF (fun k => M 34 (40 * net + k)) (fun k c => M 35 (3 * (40 * net + k) + c)) (M 39)) (fun x => ((hnd L g k) x ∨ x = k) ∧ ¬ (x < 0 ∧ L x = k)) := rg_H rg200 (fun x => ⟨fun q => q.1, fun q => ⟨q, fun w => by
                rcases q with q | q
                · have := q.1; omega
                · omega⟩⟩)
              clear so xs200 c19
              refine Z_iconst (n := 209) dX4_builds_208 rfl (by decide) ?_
              refine Z_istore (L' := [_, _, _, _, _, _, _]) (n := 211) dX4_builds_209 rfl (by decide) rfl rfl ?_
              have lp211 : ∀ (N211 : Nat) (u : Int) (M211 : zM) (J211 : zJ), ((k - u).toNat) < N211 → (0 ≤ u) → (u ≤ k) → (TI M211 J211) → (ndQ M211 g) → (hdl M M211) → (M211 31 24 ≤ M211 31 8) → (M211 31 27 ≤ M 31 27 + (k + 1)) → (∀ f : Int, 52 ≤ f → f < 56 → M211 43 f = M 43 f) → (∀ j : Int, (j < 48 ∨ 208 ≤ j) → J211 44 j = J 44 j) → (bdJ M211 g k u) → (¬ M211 43 (12 + k) = 0) → (M211 55 = M3 55 ∧ M211 56 = M3 56) → (rgI M J M211 J211 (gF (fun k => M 34 (40 * net + k)) (fun k c => M 35 (3 * (40 * net + k) + c)) (M 39)) (fun x => ((hnd L g k) x ∨ x = k) ∧ ¬ (x < u ∧ L x = k))) → TZ G mX4_builds (tl_rm 4 0 0) 0 0 kRg M J 211 [some (vR 31), some (vI net), some (vI g), some (vI k), some (vI (40 * net + k)), some (vI (12 + k)), some (vI u)] [] F1 M211 J211 (ZM G (zPost G kRg F1 M J (qI (fun x M' J' => TI M' J' ∧ hdl M M' ∧ M' 31 27 ≤ M 31 27 + 40 ∧ (∀ f : Int, 52 ≤ f → f < 56 → M' 43 f = M 43 f) ∧ (∀ j : Int, (j < 48 ∨ 208 ≤ j) → J' 44 j = J 44 j) ∧ ((x = 1 ∧ M' 31 24 ≤ M' 31 8 ∧ ¬ M' 43 (12 + g) = 0 ∧ ∀ y : Int, 0 ≤ y → y < 40 → y ≠ g → M' 43 (12 + y) = 0) ∨ x = 0) ∧ rbX M J (fun k => M 34 (40 * net + k)) (fun k c => M 35 (3 * (40 * net + k) + c)) (M 39) g x J'))) 0 0) := by
                intro N211
                induction N211 with
                | zero => intro u M211 J211 hN; omega
                | succ N211 ih211 =>
                  intro u M211 J211 hN211 i211_0 i211_1 i211_2 i211_3 i211_4 i211_5 i211_6 i211_7 i211_8 i211_9 i211_10 i211_11 i211_12
                  refine Z_iload (n := 213) dX4_builds_211 rfl rfl ?_
                  refine Z_iload_n (n := 214) dX4_builds_213 rfl rfl ?_
                  refine Z_icmp_ge (n := 217) (t := 253) dX4_builds_214 rfl (by decide) (fun c214 => ?_) (fun c214 => ?_)
                  · have eu : u = k := by omega
                    rw [eu] at i211_9 i211_12
                    have b2 := i211_2
                    have b3 := i211_3
                    have b4 := i211_4
                    have b5 := i211_5
                    have b7 := i211_7
                    have b8 := i211_8
                    have b6 : M211 31 27 ≤ M 31 27 + (k + 1) := by omega
                    have b9 := bdI_of i211_9 i211_3
                    have b10 : k + 1 = g + 1 → ¬ M211 43 (12 + g) = 0 := fun q => by rw [show g = k by omega]; exact i211_10
                    have b11 := i211_11
                    have b12 := rg_H i211_12 (fun x => hn_ref ls3 (by omega) (by omega) (by omega) hkL x)
                    have b13 : ∀ j : Int, 0 ≤ j → j < k + 1 → ¬ L j = -1 → okR M J (EH E0 (gF (fun k => M 34 (40 * net + k)) (fun k c => M 35 (3 * (40 * net + k) + c)) (M 39)) (hnd L g j)) ((gF (fun k => M 34 (40 * net + k)) (fun k c => M 35 (3 * (40 * net + k) + c)) (M 39)) j) := fun j a b c => by
                      by_cases e : j = k
                      · rw [e]; exact ok200
                      · exact i8_13 j a (by omega) c
                    refine Z_iinc (L' := [_, _, _, _, _, _, _]) (n := 256) dX4_builds_253 rfl rfl (by decide) rfl rfl (by omega) rfl ?_
                    refine Z_goto (t := 8) dX4_builds_256 (by decide) ?_
                    refine Z_loc (L' := [some _, some _, some _, some _, none, none, none]) (lsub_same (lsub_same (lsub_same (lsub_same (lsub_none (lsub_none (lsub_none lsub_nil))))))) ?_
                    exact ih8 _ _ _ (by omega) (by first | assumption | omega | decide) (by first | assumption | omega | decide) (by exact b2) (by exact b3) (by exact b4) (by exact b5) (by exact b6) (by exact b7) (by exact b8) (by exact b9) (by exact b10) (by exact b11) (by exact b12) (by exact b13)
                  · refine Z_aload_n (n := 218) dX4_builds_217 rfl rfl ?_
                    refine Z_getA (n := 221) dX4_builds_218 rfl ffX4_93 rfl rfl ?_
                    refine Z_iload (n := 223) dX4_builds_221 rfl rfl ?_
                    refine Z_zald (n := 224) dX4_builds_223 rfl rfl rfl (by first | decide | assumption) (by omega) (by omega) (fun r223 s223 => ?_)
                    refine Z_if_eq (n := 227) (t := 247) dX4_builds_224 rfl (by decide) (fun c224 => ?_) (fun c224 => ?_)
                    · have p2 := i211_2
                      have p3 := i211_3
                      have p4 := i211_4
                      have p5 := i211_5
                      have p6 := i211_6
                      have p7 := i211_7
                      have p8 := i211_8
                      have p10 := i211_10
                      have p9 := bdJ_skip i211_9 (Or.inl c224)
                      have p11 := i211_11
                      have hnu : ¬ L u = k := fun q => (ln3 u (by omega) (by omega)).mpr (by omega) (by rw [← i211_11.1]; exact c224)
                      have p12 : rgI M J M211 J211 (gF (fun k => M 34 (40 * net + k)) (fun k c => M 35 (3 * (40 * net + k) + c)) (M 39)) (fun x => ((hnd L g k) x ∨ x = k) ∧ ¬ (x < u + 1 ∧ L x = k)) := rg_H i211_12 (fun x => ⟨fun q => ⟨q.1, fun w => q.2 ⟨by omega, w.2⟩⟩, fun q => ⟨q.1, fun w => by
                        by_cases e : x = u
                        · rw [e] at w; exact hnu w.2
                        · exact q.2 ⟨by omega, w.2⟩⟩⟩)
                      refine Z_iinc (L' := [_, _, _, _, _, _, _]) (n := 250) dX4_builds_247 rfl rfl (by decide) rfl rfl (by omega) rfl ?_
                      refine Z_goto (t := 211) dX4_builds_250 (by decide) ?_
                      refine Z_loc (L' := [some _, some _, some _, some _, some _, some _, some _]) (lsub_same (lsub_same (lsub_same (lsub_same (lsub_same (lsub_same (lsub_same lsub_nil))))))) ?_
                      exact ih211 _ _ _ (by omega) (by first | assumption | omega | decide) (by first | assumption | omega | decide) (by exact p2) (by exact p3) (by exact p4) (by exact p5) (by exact p6) (by exact p7) (by exact p8) (by exact p9) (by exact p10) (by exact p11) (by exact p12)
                    · refine Z_aload_n (n := 228) dX4_builds_227 rfl rfl ?_
                      refine Z_getA (n := 231) dX4_builds_228 rfl ffX4_96 rfl rfl ?_
                      refine Z_iload (n := 233) dX4_builds_231 rfl rfl ?_
                      refine Z_iald (n := 234) dX4_builds_233 rfl rfl rfl (by first | decide | assumption) (by omega) (by omega) (fun r233 s233 => ?_)
                      refine Z_iload_n (n := 235) dX4_builds_234 rfl rfl ?_
                      refine Z_icmp_ne (n := 238) (t := 247) dX4_builds_235 rfl (by decide) (fun c235 => ?_) (fun c235 => ?_)
                      · have p2 := i211_2
                        have p3 := i211_3
                        have p4 := i211_4
                        have p5 := i211_5
                        have p6 := i211_6
                        have p7 := i211_7
                        have p8 := i211_8
                        have p10 := i211_10
                        have p9 := bdJ_skip i211_9 (Or.inr c235)
                        have p11 := i211_11
                        have hnu : ¬ L u = k := fun q => c235 (by rw [i211_11.2]; rw [hL] at q; unfold lrF at q; rw [if_neg (show ¬ u = g by omega)] at q; exact q)
                        have p12 : rgI M J M211 J211 (gF (fun k => M 34 (40 * net + k)) (fun k c => M 35 (3 * (40 * net + k) + c)) (M 39)) (fun x => ((hnd L g k) x ∨ x = k) ∧ ¬ (x < u + 1 ∧ L x = k)) := rg_H i211_12 (fun x => ⟨fun q => ⟨q.1, fun w => q.2 ⟨by omega, w.2⟩⟩, fun q => ⟨q.1, fun w => by
                          by_cases e : x = u
                          · rw [e] at w; exact hnu w.2
                          · exact q.2 ⟨by omega, w.2⟩⟩⟩)
                        refine Z_iinc (L' := [_, _, _, _, _, _, _]) (n := 250) dX4_builds_247 rfl rfl (by decide) rfl rfl (by omega) rfl ?_
                        refine Z_goto (t := 211) dX4_builds_250 (by decide) ?_
                        refine Z_loc (L' := [some _, some _, some _, some _, some _, some _, some _]) (lsub_same (lsub_same (lsub_same (lsub_same (lsub_same (lsub_same (lsub_same lsub_nil))))))) ?_
                        exact ih211 _ _ _ (by omega) (by first | assumption | omega | decide) (by first | assumption | omega | decide) (by exact p2) (by exact p3) (by exact p4) (by exact p5) (by exact p6) (by exact p7) (by exact p8) (by exact p9) (by exact p10) (by exact p11) (by exact p12)
                      · refine Z_aload_n (n := 239) dX4_builds_238 rfl rfl ?_
                        refine Z_bipush (n := 241) dX4_builds_239 rfl (by decide) (by decide) ?_
                        refine Z_iload (n := 243) dX4_builds_241 rfl rfl ?_
                        refine Z_iadd (n := 244) dX4_builds_243 rfl (by omega) ?_
                        refine Z_callVv (n := 247) [_] _ dX4_builds_244 rfl cwX4_179 rfl rfl rfl (Nat.le_of_ble_eq_true rfl) (by refine ⟨?_, ?_, ?_, ?_⟩ <;> exact Nat.le_of_ble_eq_true rfl) (fun a h => by unfold kRg at h; unfold kRv; omega) (zX4_remove  (by omega) (by omega) (by exact i211_2)) ?_
                        intro M244 J244 f244 q244
                        obtain ⟨ti244, ah244, am244, au244, af244⟩ := q244
                        have e244 : ∀ a : Nat, (a = 55 ∨ a = 56) → M244 a = M211 a := fun a ha => (f244 a (by unfold kRv; omega)).1
                        have p2 := ti244
                        have p3 : ndQ M244 g := ndQ_fr i211_3 (e244 55 (by decide)) (e244 56 (by decide))
                        have p4 : hdl M M244 := hdl_t i211_4 (hdl_a af244 (by omega))
                        have p6 : M244 31 27 ≤ M 31 27 + (k + 1) := by omega
                        have p5 : M244 31 24 ≤ M244 31 8 := by rw [af244.2.2 8 (by decide) (by decide) (by decide) (by decide)]; omega
                        have p7 : ∀ f : Int, 52 ≤ f → f < 56 → M244 43 f = M 43 f := fun f a b => ((af244.1 f (by omega)).2).trans (i211_7 f a b)
                        have p8 : ∀ j : Int, (j < 48 ∨ 208 ≤ j) → J244 44 j = J 44 j := fun j hj => (congrFun (f244 44 (by decide)).2 j).trans (i211_8 j hj)
                        have p9 : bdJ M244 g k (u + 1) := bdJ_rm i211_9 ah244 (fun f hf => (af244.1 f hf).2) (e244 55 (by decide)) (e244 56 (by decide))
                        have p10 : ¬ M244 43 (12 + k) = 0 := by rw [(af244.1 (12 + k) (by omega)).2]; exact i211_10
                        have p11 : M244 55 = M3 55 ∧ M244 56 = M3 56 := ⟨(e244 55 (by decide)).trans i211_11.1, (e244 56 (by decide)).trans i211_11.2⟩
                        have hLu : L u = k := by
                          rw [hL]; unfold lrF
                          rw [if_neg (show ¬ u = g by omega), ← i211_11.2]
                          exact c235
                        have p12 : rgI M J M244 J244 (gF (fun k => M 34 (40 * net + k)) (fun k c => M 35 (3 * (40 * net + k) + c)) (M 39)) (fun x => ((hnd L g k) x ∨ x = k) ∧ ¬ (x < u + 1 ∧ L x = k)) := rg_H (rg_rm i211_12 (by omega) (by omega) ah244 af244 (f244 44 (by decide)).2) (fun x => ⟨fun q => ⟨⟨q.1, fun w => q.2 ⟨by omega, w.2⟩⟩, fun e => q.2 ⟨by omega, by rw [e]; exact hLu⟩⟩, fun q => ⟨q.1.1, fun w => by
                          by_cases e : x = u
                          · exact q.2 e
                          · exact q.1.2 ⟨by omega, w.2⟩⟩⟩)
                        refine Z_iinc (L' := [_, _, _, _, _, _, _]) (n := 250) dX4_builds_247 rfl rfl (by decide) rfl rfl (by omega) rfl ?_
                        refine Z_goto (t := 211) dX4_builds_250 (by decide) ?_
                        refine Z_loc (L' := [some _, some _, some _, some _, some _, some _, some _]) (lsub_same (lsub_same (lsub_same (lsub_same (lsub_same (lsub_same (lsub_same lsub_nil))))))) ?_
                        exact ih211 _ _ _ (by omega) (by first | assumption | omega | decide) (by first | assumption | omega | decide) (by exact p2) (by exact p3) (by exact p4) (by exact p5) (by exact p6) (by exact p7) (by exact p8) (by exact p9) (by exact p10) (by exact p11) (by exact p12)
              refine Z_loc (L' := [some _, some _, some _, some _, some _, some _, some _]) (lsub_same (lsub_same (lsub_same (lsub_same (lsub_same (lsub_same (lsub_same lsub_nil))))))) ?_
              exact lp211 _ _ _ _ (Nat.lt_succ_self _) (by first | assumption | omega | decide) (by first | assumption | omega | decide) (by exact ti200) (by exact nd200) (by exact hd200) (by exact us200) (by omega) (by exact hi200) (by exact bi200) (by exact bj200) (by exact ah200) (by exact n55) (by exact rg200')
            · refine Z_iconst (n := 207) dX4_builds_206 rfl (by decide) ?_
              refine Z_zret dX4_builds_207 rfl (by first | assumption | omega | decide) (by first | assumption | omega | decide) ?_
              exact ⟨ti200, hd200, by omega, hi200, bi200, Or.inr rfl, L, ls3, Or.inr ⟨rfl, fun t => (so.resolve_left (fun q => by omega)).2 (t k (by omega) (by omega) hkL)⟩⟩
          refine Z_iload_n (n := 28) dX4_builds_27 rfl rfl ?_
          refine Z_imul (n := 29) dX4_builds_28 rfl (by omega) ?_
          refine Z_iload_n (n := 30) dX4_builds_29 rfl rfl ?_
          refine Z_iadd (n := 31) dX4_builds_30 rfl (by omega) ?_
          refine Z_istore (L' := [_, _, _, _, _, _, _]) (n := 33) dX4_builds_31 rfl (by decide) rfl rfl ?_
          refine Z_bipush (n := 35) dX4_builds_33 rfl (by decide) (by decide) ?_
          refine Z_iload_n (n := 36) dX4_builds_35 rfl rfl ?_
          refine Z_iadd (n := 37) dX4_builds_36 rfl (by omega) ?_
          refine Z_istore (L' := [_, _, _, _, _, _, _]) (n := 39) dX4_builds_37 rfl (by decide) rfl rfl ?_
          refine Z_aload_n (n := 40) dX4_builds_39 rfl rfl ?_
          refine Z_getA (n := 43) dX4_builds_40 rfl ffX4_16 rfl rfl ?_
          refine Z_iload (n := 45) dX4_builds_43 rfl rfl ?_
          refine Z_iald (n := 46) dX4_builds_45 rfl rfl rfl (by first | decide | assumption) (by omega) (by omega) (fun r45 s45 => ?_)
          refine Z_if_ne (n := 49) (t := 67) dX4_builds_46 rfl (by decide) (fun c46 => ?_) (fun c46 => ?_)
          · refine Z_aload_n (n := 68) dX4_builds_67 rfl rfl ?_
            refine Z_getA (n := 71) dX4_builds_68 rfl ffX4_16 rfl rfl ?_
            refine Z_iload (n := 73) dX4_builds_71 rfl rfl ?_
            refine Z_iald (n := 74) dX4_builds_73 rfl rfl rfl (by first | decide | assumption) (by omega) (by omega) (fun r73 s73 => ?_)
            refine Z_bipush (n := 76) dX4_builds_74 rfl (by decide) (by decide) ?_
            refine Z_icmp_ne (n := 79) (t := 128) dX4_builds_76 rfl (by decide) (fun c76 => ?_) (fun c76 => ?_)
            · refine Z_aload_n (n := 129) dX4_builds_128 rfl rfl ?_
              refine Z_iload (n := 131) dX4_builds_129 rfl rfl ?_
              refine Z_aload_n (n := 132) dX4_builds_131 rfl rfl ?_
              refine Z_getA (n := 135) dX4_builds_132 rfl ffX4_16 rfl rfl ?_
              refine Z_iload (n := 137) dX4_builds_135 rfl rfl ?_
              refine Z_iald (n := 138) dX4_builds_137 rfl rfl rfl (by first | decide | assumption) (by omega) (by omega) (fun r137 s137 => ?_)
              refine Z_bipush (n := 140) dX4_builds_138 rfl (by decide) (by decide) ?_
              refine Z_aload_n (n := 141) dX4_builds_140 rfl rfl ?_
              refine Z_getA (n := 144) dX4_builds_141 rfl ffX4_16 rfl rfl ?_
              refine Z_iload (n := 146) dX4_builds_144 rfl rfl ?_
              refine Z_iald (n := 147) dX4_builds_146 rfl rfl rfl (by first | decide | assumption) (by omega) (by omega) (fun r146 s146 => ?_)
              refine Z_iconst (n := 148) dX4_builds_147 rfl (by decide) ?_
              refine Z_icmp_le (n := 151) (t := 163) dX4_builds_148 rfl (by decide) (fun c148 => ?_) (fun c148 => ?_)
              · refine Z_iconst (n := 164) dX4_builds_163 rfl (by decide) ?_
                refine Z_iadd (n := 165) dX4_builds_164 rfl (by omega) ?_
                refine Z_bipush (n := 167) dX4_builds_165 rfl (by decide) (by decide) ?_
                refine Z_aload_n (n := 168) dX4_builds_167 rfl rfl ?_
                refine Z_getA (n := 171) dX4_builds_168 rfl ffX4_16 rfl rfl ?_
                refine Z_iload (n := 173) dX4_builds_171 rfl rfl ?_
                refine Z_iald (n := 174) dX4_builds_173 rfl rfl rfl (by first | decide | assumption) (by omega) (by omega) (fun r173 s173 => ?_)
                refine Z_iconst (n := 175) dX4_builds_174 rfl (by decide) ?_
                refine Z_icmp_le (n := 178) (t := 192) dX4_builds_175 rfl (by decide) (fun c175 => ?_) (fun c175 => ?_)
                · refine Z_iconst (n := 193) dX4_builds_192 rfl (by decide) ?_
                  refine Z_iadd (n := 194) dX4_builds_193 rfl (by omega) ?_
                  refine Z_callVv (n := 197) [_, _, _, _] _ dX4_builds_194 rfl cwX4_204 rfl rfl rfl (Nat.le_of_ble_eq_true rfl) (by refine ⟨?_, ?_, ?_, ?_⟩ <;> exact Nat.le_of_ble_eq_true rfl) (fun a h => by unfold kRg at h; unfold kBits; omega) (zX4_makeOf_f  (by omega) (by omega) (by omega) (by omega) (by omega) (by omega)) ?_
                  intro M194 J194 f194 q194
                  obtain ⟨e194_1, vb194, vo194⟩ := q194
                  replace e194_1 := e194_1.symm; subst e194_1
                  have hF197 : phi J194 (12 + k) = (gF (fun k => M 34 (40 * net + k)) (fun k c => M 35 (3 * (40 * net + k) + c)) (M 39)) k := by
                    refine (phi_of (by omega) (by omega) vb194).trans ?_
                    rw [gF_eq (m := M 32 net) (fun q a b c c0 c1 => (hN.1 q a b).1 c c0 c1) (by omega) (by omega)]
                    unfold gst
                    dsimp only
                    rw [if_neg (show ¬ M 34 (40 * net + k) = 0 by rw [← e34]; exact c46)]
                    funext r
                    rw [e34]
                    refine of_gst (by omega) (by omega) (fun q => ?_) (fun q => ?_)
                    · first
                        | (have z := hat 0 (by decide) (op_a q); rw [Int.add_zero] at z; rw [e35, z, Int.add_zero]; done)
                        | (exfalso; omega)
                    · first
                        | (have z := hat 1 (by decide) (op_b q); rw [e35, z]; done)
                        | (exfalso; omega)
                  refine Z_loc (L' := [some _, some _, some _, some _, some _, some _, none]) (lsub_same (lsub_same (lsub_same (lsub_same (lsub_same (lsub_same (lsub_none lsub_nil))))))) ?_
                  exact ct197  _ _ (by first | rfl | assumption) (by first | exact (f61 48 (by decide)).2 | exact (f122 48 (by decide)).2 | exact (f194 48 (by decide)).2) (by first | exact vo61 | exact vo122 | exact vo194) (by exact hF197)
                · have hp1 := ho1 (op_b (by omega))
                  refine Z_aload_n (n := 179) dX4_builds_178 rfl rfl ?_
                  refine Z_getA (n := 182) dX4_builds_179 rfl ffX4_19 rfl rfl ?_
                  refine Z_iconst (n := 183) dX4_builds_182 rfl (by decide) ?_
                  refine Z_iload (n := 185) dX4_builds_183 rfl rfl ?_
                  refine Z_imul (n := 186) dX4_builds_185 rfl (by omega) ?_
                  refine Z_iconst (n := 187) dX4_builds_186 rfl (by decide) ?_
                  refine Z_iadd (n := 188) dX4_builds_187 rfl (by omega) ?_
                  refine Z_iald (n := 189) dX4_builds_188 rfl rfl rfl (by first | decide | assumption) (by omega) (by omega) (fun r188 s188 => ?_)
                  refine Z_goto (t := 193) dX4_builds_189 (by decide) ?_
                  refine Z_iadd (n := 194) dX4_builds_193 rfl (by omega) ?_
                  refine Z_callVv (n := 197) [_, _, _, _] _ dX4_builds_194 rfl cwX4_204 rfl rfl rfl (Nat.le_of_ble_eq_true rfl) (by refine ⟨?_, ?_, ?_, ?_⟩ <;> exact Nat.le_of_ble_eq_true rfl) (fun a h => by unfold kRg at h; unfold kBits; omega) (zX4_makeOf_f  (by omega) (by omega) (by omega) (by omega) (by omega) (by omega)) ?_
                  intro M194 J194 f194 q194
                  obtain ⟨e194_1, vb194, vo194⟩ := q194
                  replace e194_1 := e194_1.symm; subst e194_1
                  have hF197 : phi J194 (12 + k) = (gF (fun k => M 34 (40 * net + k)) (fun k c => M 35 (3 * (40 * net + k) + c)) (M 39)) k := by
                    refine (phi_of (by omega) (by omega) vb194).trans ?_
                    rw [gF_eq (m := M 32 net) (fun q a b c c0 c1 => (hN.1 q a b).1 c c0 c1) (by omega) (by omega)]
                    unfold gst
                    dsimp only
                    rw [if_neg (show ¬ M 34 (40 * net + k) = 0 by rw [← e34]; exact c46)]
                    funext r
                    rw [e34]
                    refine of_gst (by omega) (by omega) (fun q => ?_) (fun q => ?_)
                    · first
                        | (have z := hat 0 (by decide) (op_a q); rw [Int.add_zero] at z; rw [e35, z, Int.add_zero]; done)
                        | (exfalso; omega)
                    · first
                        | (have z := hat 1 (by decide) (op_b q); rw [e35, z]; done)
                        | (exfalso; omega)
                  refine Z_loc (L' := [some _, some _, some _, some _, some _, some _, none]) (lsub_same (lsub_same (lsub_same (lsub_same (lsub_same (lsub_same (lsub_none lsub_nil))))))) ?_
                  exact ct197  _ _ (by first | rfl | assumption) (by first | exact (f61 48 (by decide)).2 | exact (f122 48 (by decide)).2 | exact (f194 48 (by decide)).2) (by first | exact vo61 | exact vo122 | exact vo194) (by exact hF197)
              · have hp0 := ho0 (op_a (by omega))
                refine Z_aload_n (n := 152) dX4_builds_151 rfl rfl ?_
                refine Z_getA (n := 155) dX4_builds_152 rfl ffX4_19 rfl rfl ?_
                refine Z_iconst (n := 156) dX4_builds_155 rfl (by decide) ?_
                refine Z_iload (n := 158) dX4_builds_156 rfl rfl ?_
                refine Z_imul (n := 159) dX4_builds_158 rfl (by omega) ?_
                refine Z_iald (n := 160) dX4_builds_159 rfl rfl rfl (by first | decide | assumption) (by omega) (by omega) (fun r159 s159 => ?_)
                refine Z_goto (t := 164) dX4_builds_160 (by decide) ?_
                refine Z_iadd (n := 165) dX4_builds_164 rfl (by omega) ?_
                refine Z_bipush (n := 167) dX4_builds_165 rfl (by decide) (by decide) ?_
                refine Z_aload_n (n := 168) dX4_builds_167 rfl rfl ?_
                refine Z_getA (n := 171) dX4_builds_168 rfl ffX4_16 rfl rfl ?_
                refine Z_iload (n := 173) dX4_builds_171 rfl rfl ?_
                refine Z_iald (n := 174) dX4_builds_173 rfl rfl rfl (by first | decide | assumption) (by omega) (by omega) (fun r173 s173 => ?_)
                refine Z_iconst (n := 175) dX4_builds_174 rfl (by decide) ?_
                refine Z_icmp_le (n := 178) (t := 192) dX4_builds_175 rfl (by decide) (fun c175 => ?_) (fun c175 => ?_)
                · refine Z_iconst (n := 193) dX4_builds_192 rfl (by decide) ?_
                  refine Z_iadd (n := 194) dX4_builds_193 rfl (by omega) ?_
                  refine Z_callVv (n := 197) [_, _, _, _] _ dX4_builds_194 rfl cwX4_204 rfl rfl rfl (Nat.le_of_ble_eq_true rfl) (by refine ⟨?_, ?_, ?_, ?_⟩ <;> exact Nat.le_of_ble_eq_true rfl) (fun a h => by unfold kRg at h; unfold kBits; omega) (zX4_makeOf_f  (by omega) (by omega) (by omega) (by omega) (by omega) (by omega)) ?_
                  intro M194 J194 f194 q194
                  obtain ⟨e194_1, vb194, vo194⟩ := q194
                  replace e194_1 := e194_1.symm; subst e194_1
                  have hF197 : phi J194 (12 + k) = (gF (fun k => M 34 (40 * net + k)) (fun k c => M 35 (3 * (40 * net + k) + c)) (M 39)) k := by
                    refine (phi_of (by omega) (by omega) vb194).trans ?_
                    rw [gF_eq (m := M 32 net) (fun q a b c c0 c1 => (hN.1 q a b).1 c c0 c1) (by omega) (by omega)]
                    unfold gst
                    dsimp only
                    rw [if_neg (show ¬ M 34 (40 * net + k) = 0 by rw [← e34]; exact c46)]
                    funext r
                    rw [e34]
                    refine of_gst (by omega) (by omega) (fun q => ?_) (fun q => ?_)
                    · first
                        | (have z := hat 0 (by decide) (op_a q); rw [Int.add_zero] at z; rw [e35, z, Int.add_zero]; done)
                        | (exfalso; omega)
                    · first
                        | (have z := hat 1 (by decide) (op_b q); rw [e35, z]; done)
                        | (exfalso; omega)
                  refine Z_loc (L' := [some _, some _, some _, some _, some _, some _, none]) (lsub_same (lsub_same (lsub_same (lsub_same (lsub_same (lsub_same (lsub_none lsub_nil))))))) ?_
                  exact ct197  _ _ (by first | rfl | assumption) (by first | exact (f61 48 (by decide)).2 | exact (f122 48 (by decide)).2 | exact (f194 48 (by decide)).2) (by first | exact vo61 | exact vo122 | exact vo194) (by exact hF197)
                · have hp1 := ho1 (op_b (by omega))
                  refine Z_aload_n (n := 179) dX4_builds_178 rfl rfl ?_
                  refine Z_getA (n := 182) dX4_builds_179 rfl ffX4_19 rfl rfl ?_
                  refine Z_iconst (n := 183) dX4_builds_182 rfl (by decide) ?_
                  refine Z_iload (n := 185) dX4_builds_183 rfl rfl ?_
                  refine Z_imul (n := 186) dX4_builds_185 rfl (by omega) ?_
                  refine Z_iconst (n := 187) dX4_builds_186 rfl (by decide) ?_
                  refine Z_iadd (n := 188) dX4_builds_187 rfl (by omega) ?_
                  refine Z_iald (n := 189) dX4_builds_188 rfl rfl rfl (by first | decide | assumption) (by omega) (by omega) (fun r188 s188 => ?_)
                  refine Z_goto (t := 193) dX4_builds_189 (by decide) ?_
                  refine Z_iadd (n := 194) dX4_builds_193 rfl (by omega) ?_
                  refine Z_callVv (n := 197) [_, _, _, _] _ dX4_builds_194 rfl cwX4_204 rfl rfl rfl (Nat.le_of_ble_eq_true rfl) (by refine ⟨?_, ?_, ?_, ?_⟩ <;> exact Nat.le_of_ble_eq_true rfl) (fun a h => by unfold kRg at h; unfold kBits; omega) (zX4_makeOf_f  (by omega) (by omega) (by omega) (by omega) (by omega) (by omega)) ?_
                  intro M194 J194 f194 q194
                  obtain ⟨e194_1, vb194, vo194⟩ := q194
                  replace e194_1 := e194_1.symm; subst e194_1
                  have hF197 : phi J194 (12 + k) = (gF (fun k => M 34 (40 * net + k)) (fun k c => M 35 (3 * (40 * net + k) + c)) (M 39)) k := by
                    refine (phi_of (by omega) (by omega) vb194).trans ?_
                    rw [gF_eq (m := M 32 net) (fun q a b c c0 c1 => (hN.1 q a b).1 c c0 c1) (by omega) (by omega)]
                    unfold gst
                    dsimp only
                    rw [if_neg (show ¬ M 34 (40 * net + k) = 0 by rw [← e34]; exact c46)]
                    funext r
                    rw [e34]
                    refine of_gst (by omega) (by omega) (fun q => ?_) (fun q => ?_)
                    · first
                        | (have z := hat 0 (by decide) (op_a q); rw [Int.add_zero] at z; rw [e35, z, Int.add_zero]; done)
                        | (exfalso; omega)
                    · first
                        | (have z := hat 1 (by decide) (op_b q); rw [e35, z]; done)
                        | (exfalso; omega)
                  refine Z_loc (L' := [some _, some _, some _, some _, some _, some _, none]) (lsub_same (lsub_same (lsub_same (lsub_same (lsub_same (lsub_same (lsub_none lsub_nil))))))) ?_
                  exact ct197  _ _ (by first | rfl | assumption) (by first | exact (f61 48 (by decide)).2 | exact (f122 48 (by decide)).2 | exact (f194 48 (by decide)).2) (by first | exact vo61 | exact vo122 | exact vo194) (by exact hF197)
            · have hq3 : opF (M8 34 (40 * net + k)) = 3 := by rw [c76]; rfl
              have hp0 := ho0 (by omega)
              have hp1 := ho1 (by omega)
              have hp2 := ho2 (by omega)
              refine Z_aload_n (n := 80) dX4_builds_79 rfl rfl ?_
              refine Z_iload (n := 82) dX4_builds_80 rfl rfl ?_
              refine Z_bipush (n := 84) dX4_builds_82 rfl (by decide) (by decide) ?_
              refine Z_aload_n (n := 85) dX4_builds_84 rfl rfl ?_
              refine Z_getA (n := 88) dX4_builds_85 rfl ffX4_19 rfl rfl ?_
              refine Z_iconst (n := 89) dX4_builds_88 rfl (by decide) ?_
              refine Z_iload (n := 91) dX4_builds_89 rfl rfl ?_
              refine Z_imul (n := 92) dX4_builds_91 rfl (by omega) ?_
              refine Z_iald (n := 93) dX4_builds_92 rfl rfl rfl (by first | decide | assumption) (by omega) (by omega) (fun r92 s92 => ?_)
              refine Z_iadd (n := 94) dX4_builds_93 rfl (by omega) ?_
              refine Z_bipush (n := 96) dX4_builds_94 rfl (by decide) (by decide) ?_
              refine Z_aload_n (n := 97) dX4_builds_96 rfl rfl ?_
              refine Z_getA (n := 100) dX4_builds_97 rfl ffX4_19 rfl rfl ?_
              refine Z_iconst (n := 101) dX4_builds_100 rfl (by decide) ?_
              refine Z_iload (n := 103) dX4_builds_101 rfl rfl ?_
              refine Z_imul (n := 104) dX4_builds_103 rfl (by omega) ?_
              refine Z_iconst (n := 105) dX4_builds_104 rfl (by decide) ?_
              refine Z_iadd (n := 106) dX4_builds_105 rfl (by omega) ?_
              refine Z_iald (n := 107) dX4_builds_106 rfl rfl rfl (by first | decide | assumption) (by omega) (by omega) (fun r106 s106 => ?_)
              refine Z_iadd (n := 108) dX4_builds_107 rfl (by omega) ?_
              refine Z_bipush (n := 110) dX4_builds_108 rfl (by decide) (by decide) ?_
              refine Z_aload_n (n := 111) dX4_builds_110 rfl rfl ?_
              refine Z_getA (n := 114) dX4_builds_111 rfl ffX4_19 rfl rfl ?_
              refine Z_iconst (n := 115) dX4_builds_114 rfl (by decide) ?_
              refine Z_iload (n := 117) dX4_builds_115 rfl rfl ?_
              refine Z_imul (n := 118) dX4_builds_117 rfl (by omega) ?_
              refine Z_iconst (n := 119) dX4_builds_118 rfl (by decide) ?_
              refine Z_iadd (n := 120) dX4_builds_119 rfl (by omega) ?_
              refine Z_iald (n := 121) dX4_builds_120 rfl rfl rfl (by first | decide | assumption) (by omega) (by omega) (fun r120 s120 => ?_)
              refine Z_iadd (n := 122) dX4_builds_121 rfl (by omega) ?_
              refine Z_callVv (n := 125) [_, _, _, _] _ dX4_builds_122 rfl cwX4_200 rfl rfl rfl (Nat.le_of_ble_eq_true rfl) (by refine ⟨?_, ?_, ?_, ?_⟩ <;> exact Nat.le_of_ble_eq_true rfl) (fun a h => by unfold kRg at h; unfold kBits; omega) (zX4_makeChoice  (by omega) (by omega) (by omega) (by omega) (by omega) (by omega) (by omega) (by omega)) ?_
              intro M122 J122 f122 q122
              obtain ⟨e122_1, vb122, vo122⟩ := q122
              replace e122_1 := e122_1.symm; subst e122_1
              have hF197 : phi J122 (12 + k) = (gF (fun k => M 34 (40 * net + k)) (fun k c => M 35 (3 * (40 * net + k) + c)) (M 39)) k := by
                refine (phi_ch vb122).trans ?_
                have e10 : M 34 (40 * net + k) = 10 := by rw [← e34]; exact c76
                have q3 : opF (M 34 (40 * net + k)) = 3 := by rw [e10]; rfl
                have a0 := hat 0 (by decide) (by omega)
                have a1 := hat 1 (by decide) (by omega)
                have a2 := hat 2 (by decide) (by omega)
                rw [Int.add_zero] at a0
                rw [gF_eq (m := M 32 net) (fun q a b c c0 c1 => (hN.1 q a b).1 c c0 c1) (by omega) (by omega)]
                unfold gst
                dsimp only
                rw [if_neg (show ¬ M 34 (40 * net + k) = 0 by omega), q3]
                funext r
                rw [if_pos (show (0 : Int) < 3 by decide), if_pos (show (1 : Int) < 3 by decide), if_pos (show (2 : Int) < 3 by decide), e10, Int.add_zero, e35, e35, e35, a0, a1, a2]
              refine Z_goto (t := 197) dX4_builds_125 (by decide) ?_
              refine Z_loc (L' := [some _, some _, some _, some _, some _, some _, none]) (lsub_same (lsub_same (lsub_same (lsub_same (lsub_same (lsub_same (lsub_none lsub_nil))))))) ?_
              exact ct197  _ _ (by first | rfl | assumption) (by first | exact (f61 48 (by decide)).2 | exact (f122 48 (by decide)).2 | exact (f194 48 (by decide)).2) (by first | exact vo61 | exact vo122 | exact vo194) (by exact hF197)
          · have hv := hgt.2 c46
            refine Z_aload_n (n := 50) dX4_builds_49 rfl rfl ?_
            refine Z_iload (n := 52) dX4_builds_50 rfl rfl ?_
            refine Z_aload_n (n := 53) dX4_builds_52 rfl rfl ?_
            refine Z_getA (n := 56) dX4_builds_53 rfl ffX4_19 rfl rfl ?_
            refine Z_iconst (n := 57) dX4_builds_56 rfl (by decide) ?_
            refine Z_iload (n := 59) dX4_builds_57 rfl rfl ?_
            refine Z_imul (n := 60) dX4_builds_59 rfl (by omega) ?_
            refine Z_iald (n := 61) dX4_builds_60 rfl rfl rfl (by first | decide | assumption) (by omega) (by omega) (fun r60 s60 => ?_)
            refine Z_callVv (n := 64) [_, _] _ dX4_builds_61 rfl cwX4_197 rfl rfl rfl (Nat.le_of_ble_eq_true rfl) (by refine ⟨?_, ?_, ?_, ?_⟩ <;> exact Nat.le_of_ble_eq_true rfl) (fun a h => by unfold kRg at h; unfold kBits; omega) (zX4_makeVariable  (by omega) (by omega) (by omega) (by omega)) ?_
            intro M61 J61 f61 q61
            obtain ⟨e61_1, vb61, vo61⟩ := q61
            replace e61_1 := e61_1.symm; subst e61_1
            have hF197 : phi J61 (12 + k) = (gF (fun k => M 34 (40 * net + k)) (fun k c => M 35 (3 * (40 * net + k) + c)) (M 39)) k := by
              have w : -1 ≤ M8 39 (M8 35 (3 * (40 * net + k))) ∧ M8 39 (M8 35 (3 * (40 * net + k))) ≤ 7 := ok8 39 _
              have p0 : 0 ≤ M8 39 (M8 35 (3 * (40 * net + k))) := by rw [(fr8 39 (by decide)).1]; exact hO _ hv.1 hv.2
              refine (phi_var p0 w.2 hW8 vb61).trans ?_
              rw [gF_eq (m := M 32 net) (fun q a b c c0 c1 => (hN.1 q a b).1 c c0 c1) (by omega) (by omega)]
              unfold gst
              dsimp only
              rw [if_pos (show M 34 (40 * net + k) = 0 by rw [← e34]; exact c46), (fr8 39 (by decide)).1, e35, Int.add_zero]
            refine Z_goto (t := 197) dX4_builds_64 (by decide) ?_
            refine Z_loc (L' := [some _, some _, some _, some _, some _, some _, none]) (lsub_same (lsub_same (lsub_same (lsub_same (lsub_same (lsub_same (lsub_none lsub_nil))))))) ?_
            exact ct197  _ _ (by first | rfl | assumption) (by first | exact (f61 48 (by decide)).2 | exact (f122 48 (by decide)).2 | exact (f194 48 (by decide)).2) (by first | exact vo61 | exact vo122 | exact vo194) (by exact hF197)
        · have b2 := i8_2
          have b3 := i8_3
          have b4 := i8_4
          have b5 := i8_5
          have b7 := i8_7
          have b8 := i8_8
          have b6 : M8 31 27 ≤ M 31 27 + (k + 1) := by omega
          have b9 := bdI_skip i8_9 i8_3 c19
          have hkL : L k = -1 := by
            by_cases q : L k = -1
            · exact q
            · exact absurd (by rw [← i8_11.1]; exact c19) ((ln3 k (by omega) (by omega)).mpr q)
          have b11 := i8_11
          have b12 := rg_H i8_12 (fun x => hn_skip ls3 (by omega) (by omega) hkL x)
          have b13 : ∀ j : Int, 0 ≤ j → j < k + 1 → ¬ L j = -1 → okR M J (EH E0 (gF (fun k => M 34 (40 * net + k)) (fun k c => M 35 (3 * (40 * net + k) + c)) (M 39)) (hnd L g j)) ((gF (fun k => M 34 (40 * net + k)) (fun k c => M 35 (3 * (40 * net + k) + c)) (M 39)) j) := fun j a b c => by
            by_cases e : j = k
            · exact absurd (by rw [e]; exact hkL) c
            · exact i8_13 j a (by omega) c
          have b10 : k + 1 = g + 1 → ¬ M8 43 (12 + g) = 0 := fun q => by
            rw [show k = g by omega] at c19
            exact absurd c19 i8_3.1
          refine Z_goto (t := 253) dX4_builds_22 (by decide) ?_
          refine Z_iinc (L' := [_, _, _, _, _, _, _]) (n := 256) dX4_builds_253 rfl rfl (by decide) rfl rfl (by omega) rfl ?_
          refine Z_goto (t := 8) dX4_builds_256 (by decide) ?_
          refine Z_loc (L' := [some _, some _, some _, some _, none, none, none]) (lsub_same (lsub_same (lsub_same (lsub_same (lsub_none (lsub_none (lsub_none lsub_nil))))))) ?_
          exact ih8 _ _ _ (by omega) (by first | assumption | omega | decide) (by first | assumption | omega | decide) (by exact b2) (by exact b3) (by exact b4) (by exact b5) (by exact b6) (by exact b7) (by exact b8) (by exact b9) (by exact b10) (by exact b11) (by exact b12) (by exact b13)
  refine Z_loc (L' := [some _, some _, some _, some _, none, none, none]) (lsub_same (lsub_same (lsub_same (lsub_same (lsub_none (lsub_none (lsub_none lsub_nil))))))) ?_
  exact lp8 _ _ _ _ (Nat.lt_succ_self _) (by first | assumption | omega | decide) (by first | assumption | omega | decide) (by exact ti3) (by exact nd3) (by exact hd3) (by exact us3) (by exact mk3) (by exact hi3) (by exact bi3) (by exact bd3) (by exact fun q => by omega) (by exact ⟨rfl, rfl⟩) (by exact rg3) (by exact fun j a b => by omega)
end
