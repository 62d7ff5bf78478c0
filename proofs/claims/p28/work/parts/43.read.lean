/-! ===== the reference: what reads ===== -/
def btF (B : Int → Int64) (p : Int) : Int := if zlshr (B (zshr p 6)) (zand p 63) &&& 1 = 1 then 1 else 0
theorem btF_in (B : Int → Int64) (p : Int) : btF B p = 0 ∨ btF B p = 1 := by
  unfold btF
  split
  · exact Or.inr rfl
  · exact Or.inl rfl
def pw2 : Nat → Int
  | 0 => 1
  | n + 1 => 2 * pw2 n
def stF (o : Int → Int) (a : Int) : Nat → Int
  | 0 => 0
  | n + 1 => 2 * stF o a n + zand (zshr a (o (n : Int))) 1
theorem stF_in (o : Int → Int) (a : Int) : ∀ n : Nat, 0 ≤ stF o a n ∧ stF o a n < pw2 n
  | 0 => by simp [stF, pw2]
  | n + 1 => by
    have h := stF_in o a n
    have := zand_1 (zshr a (o (n : Int)))
    unfold stF pw2
    omega
theorem pw2_8 : ∀ n : Fin 9, pw2 n ≤ 256 := by decide
theorem stF_256 (o : Int → Int) (a : Int) {n : Nat} (h : n ≤ 8) : 0 ≤ stF o a n ∧ stF o a n < 256 := by
  have h1 := stF_in o a n
  have h2 : pw2 n ≤ 256 := pw2_8 ⟨n, by omega⟩
  omega
theorem stF_up (o : Int → Int) (a : Int) {i : Int} (h : 0 ≤ i) : stF o a (i + 1).toNat = 2 * stF o a i.toNat + zand (zshr a (o i)) 1 := by
  rw [show (i + 1).toNat = i.toNat + 1 by omega]
  show 2 * stF o a i.toNat + zand (zshr a (o (i.toNat : Int))) 1 = _
  rw [Int.toNat_of_nonneg h]
def asF (o : Int → Int) (p : Int) : Nat → Int
  | 0 => 0
  | n + 1 => zor (asF o p n) (zshl (zand (zshr p (7 - (n : Int))) 1) (o (n : Int)))
theorem asF_up (o : Int → Int) (p : Int) {i : Int} (h : 0 ≤ i) : asF o p (i + 1).toNat = zor (asF o p i.toNat) (zshl (zand (zshr p (7 - i)) 1) (o i)) := by
  rw [show (i + 1).toNat = i.toNat + 1 by omega]
  show zor (asF o p i.toNat) (zshl (zand (zshr p (7 - (i.toNat : Int))) 1) (o (i.toNat : Int))) = _
  rw [Int.toNat_of_nonneg h]
def lsQ (B : Int → Int64) (y x : Int) : Prop := (x = -1 ∧ ∀ p : Int, 0 ≤ p → p < 256 → ¬ btF B p = y) ∨ (0 ≤ x ∧ x < 256 ∧ btF B x = y ∧ ∀ p : Int, 0 ≤ p → p < x → ¬ btF B p = y)
set_option maxRecDepth 20000 in
theorem zX4_bit {G : tl_G} {M : zM} {J : zJ} {f p : Int} (f0 : 0 ≤ f) (f1 : f < 56) (p0 : 0 ≤ p) (p1 : p < 256) : ZN G yX4_bit mX4_bit 0 kAll [vR 31, vI f, vI p] F1 M J (qI (fun x M' J' => M' = M ∧ J' = J ∧ x = btF (bitF J f) p)) := by
  refine ZN_of (L := [_, _, _]) (by decide) rfl rfl (Nat.le_of_ble_eq_true rfl) rfl (fun hav => ?_)
  have z6 := zshr6' p0 p1
  refine Z_aload_n (n := 1) dX4_bit_0 rfl rfl ?_
  refine Z_getA (n := 4) dX4_bit_1 rfl ffX4_47 rfl rfl ?_
  refine Z_iconst (n := 5) dX4_bit_4 rfl (by decide) ?_
  refine Z_iload_n (n := 6) dX4_bit_5 rfl rfl ?_
  refine Z_imul (n := 7) dX4_bit_6 rfl (by omega) ?_
  refine Z_iload_n (n := 8) dX4_bit_7 rfl rfl ?_
  refine Z_bipush (n := 10) dX4_bit_8 rfl (by decide) (by decide) ?_
  refine Z_ishr (n := 11) dX4_bit_10 rfl ?_
  refine Z_iadd (n := 12) dX4_bit_11 rfl (by omega) ?_
  refine Z_lald (n := 13) dX4_bit_12 rfl rfl (by decide) (by omega) (by omega) ?_
  refine Z_iload_n (n := 14) dX4_bit_13 rfl rfl ?_
  refine Z_bipush (n := 16) dX4_bit_14 rfl (by decide) (by decide) ?_
  refine Z_iand (n := 17) dX4_bit_16 rfl ?_
  refine Z_lshr (n := 18) dX4_bit_17 rfl ?_
  refine Z_lconst (v := 1) (n := 19) dX4_bit_18 rfl (by decide) ?_
  refine Z_land (n := 20) dX4_bit_19 rfl ?_
  refine Z_lconst (v := 1) (n := 21) dX4_bit_20 rfl (by decide) ?_
  refine Z_lcmp (n := 22) dX4_bit_21 rfl ?_
  refine Z_if_ne (n := 25) (t := 29) dX4_bit_22 rfl (by decide) (fun c22 => ?_) (fun c22 => ?_)
  · refine Z_iconst (n := 30) dX4_bit_29 rfl (by decide) ?_
    refine Z_zret dX4_bit_30 rfl (by first | assumption | omega | decide) (by first | assumption | omega | decide) ?_
    refine ⟨rfl, rfl, ?_⟩
    unfold btF
    first
      | exact (if_pos ((zcmp_eq _ _).mp c22)).symm
      | exact (if_neg (fun e => c22 ((zcmp_eq _ _).mpr e))).symm
  · refine Z_iconst (n := 26) dX4_bit_25 rfl (by decide) ?_
    refine Z_goto (t := 30) dX4_bit_26 (by decide) ?_
    refine Z_zret dX4_bit_30 rfl (by first | assumption | omega | decide) (by first | assumption | omega | decide) ?_
    refine ⟨rfl, rfl, ?_⟩
    unfold btF
    first
      | exact (if_pos ((zcmp_eq _ _).mp c22)).symm
      | exact (if_neg (fun e => c22 ((zcmp_eq _ _).mpr e))).symm
set_option maxRecDepth 20000 in
theorem zX4_stands {G : tl_G} {M : zM} {J : zJ} {a : Int}  : ZN G yX4_stands mX4_stands 0 kAll [vR 31, vI a] F1 M J (qI (fun x M' J' => M' = M ∧ J' = J ∧ x = stF (M 38) a 8)) := by
  refine ZN_of (L := [_, _, _, _]) (by decide) rfl rfl (Nat.le_of_ble_eq_true rfl) rfl (fun hav => ?_)
  refine Z_iconst (n := 1) dX4_stands_0 rfl (by decide) ?_
  refine Z_istore_n (L' := [_, _, _, _]) (n := 2) dX4_stands_1 rfl (by decide) rfl rfl ?_
  refine Z_iconst (n := 3) dX4_stands_2 rfl (by decide) ?_
  refine Z_istore_n (L' := [_, _, _, _]) (n := 4) dX4_stands_3 rfl (by decide) rfl rfl ?_
  have lp4 : ∀ (N4 : Nat) (p k : Int) , ((8 - k).toNat) < N4 → (0 ≤ k) → (k ≤ 8) → (p = stF (M 38) a k.toNat) → TZ G mX4_stands (tl_rm 0 0 0) 0 0 kAll M J 4 [some (vR 31), some (vI a), some (vI p), some (vI k)] [] F1 M J (ZM G (zPost G kAll F1 M J (qI (fun x M' J' => M' = M ∧ J' = J ∧ x = stF (M 38) a 8))) 0 0) := by
    intro N4
    induction N4 with
    | zero => intro p k  hN; omega
    | succ N4 ih4 =>
      intro p k  hN4 i4_0 i4_1 i4_2
      refine Z_iload_n (n := 5) dX4_stands_4 rfl rfl ?_
      refine Z_bipush (n := 7) dX4_stands_5 rfl (by decide) (by decide) ?_
      refine Z_icmp_ge (n := 10) (t := 31) dX4_stands_7 rfl (by decide) (fun c7 => ?_) (fun c7 => ?_)
      · refine Z_iload_n (n := 32) dX4_stands_31 rfl rfl ?_
        refine Z_iret dX4_stands_32 rfl ?_
        refine ⟨rfl, rfl, ?_⟩; rw [i4_2, show k = 8 by omega]; rfl
      · have hst := stF_256 (M 38) a (n := k.toNat) (by omega)
        rw [← i4_2] at hst
        refine Z_iconst (n := 11) dX4_stands_10 rfl (by decide) ?_
        refine Z_iload_n (n := 12) dX4_stands_11 rfl rfl ?_
        refine Z_imul (n := 13) dX4_stands_12 rfl (by omega) ?_
        refine Z_iload_n (n := 14) dX4_stands_13 rfl rfl ?_
        refine Z_aload_n (n := 15) dX4_stands_14 rfl rfl ?_
        refine Z_getA (n := 18) dX4_stands_15 rfl ffX4_29 rfl rfl ?_
        refine Z_iload_n (n := 19) dX4_stands_18 rfl rfl ?_
        refine Z_iald (n := 20) dX4_stands_19 rfl rfl rfl (by first | decide | assumption) (by omega) (by omega) (fun r19 s19 => ?_)
        refine Z_ishr (n := 21) dX4_stands_20 rfl ?_
        refine Z_iconst (n := 22) dX4_stands_21 rfl (by decide) ?_
        refine Z_iand (n := 23) dX4_stands_22 rfl ?_
        have hz1 := zand_1 (zshr a (M 38 k))
        refine Z_iadd (n := 24) dX4_stands_23 rfl (by omega) ?_
        refine Z_istore_n (L' := [_, _, _, _]) (n := 25) dX4_stands_24 rfl (by decide) rfl rfl ?_
        refine Z_iinc (L' := [_, _, _, _]) (n := 28) dX4_stands_25 rfl rfl (by decide) rfl rfl (by omega) rfl ?_
        refine Z_goto (t := 4) dX4_stands_28 (by decide) ?_
        refine Z_loc (L' := [some _, some _, some _, some _]) (lsub_same (lsub_same (lsub_same (lsub_same lsub_nil)))) ?_
        exact ih4 _ _  (by omega) (by first | assumption | omega | decide) (by first | assumption | omega | decide) (by rw [stF_up _ _ i4_0, ← i4_2])
  refine Z_loc (L' := [some _, some _, some _, some _]) (lsub_same (lsub_same (lsub_same (lsub_same lsub_nil)))) ?_
  exact lp4 _ _ _  (Nat.lt_succ_self _) (by first | assumption | omega | decide) (by first | assumption | omega | decide) (by rfl)
set_option maxRecDepth 20000 in
theorem zX4_assignmentAt {G : tl_G} {M : zM} {J : zJ} {p : Int}  : ZN G yX4_assignmentAt mX4_assignmentAt 0 kAll [vR 31, vI p] F1 M J (qI (fun x M' J' => M' = M ∧ J' = J ∧ x = asF (M 38) p 8)) := by
  refine ZN_of (L := [_, _, _, _]) (by decide) rfl rfl (Nat.le_of_ble_eq_true rfl) rfl (fun hav => ?_)
  refine Z_iconst (n := 1) dX4_assignmentAt_0 rfl (by decide) ?_
  refine Z_istore_n (L' := [_, _, _, _]) (n := 2) dX4_assignmentAt_1 rfl (by decide) rfl rfl ?_
  refine Z_iconst (n := 3) dX4_assignmentAt_2 rfl (by decide) ?_
  refine Z_istore_n (L' := [_, _, _, _]) (n := 4) dX4_assignmentAt_3 rfl (by decide) rfl rfl ?_
  have lp4 : ∀ (N4 : Nat) (a k : Int) , ((8 - k).toNat) < N4 → (0 ≤ k) → (k ≤ 8) → (a = asF (M 38) p k.toNat) → TZ G mX4_assignmentAt (tl_rm 0 0 0) 0 0 kAll M J 4 [some (vR 31), some (vI p), some (vI a), some (vI k)] [] F1 M J (ZM G (zPost G kAll F1 M J (qI (fun x M' J' => M' = M ∧ J' = J ∧ x = asF (M 38) p 8))) 0 0) := by
    intro N4
    induction N4 with
    | zero => intro a k  hN; omega
    | succ N4 ih4 =>
      intro a k  hN4 i4_0 i4_1 i4_2
      refine Z_iload_n (n := 5) dX4_assignmentAt_4 rfl rfl ?_
      refine Z_bipush (n := 7) dX4_assignmentAt_5 rfl (by decide) (by decide) ?_
      refine Z_icmp_ge (n := 10) (t := 34) dX4_assignmentAt_7 rfl (by decide) (fun c7 => ?_) (fun c7 => ?_)
      · refine Z_iload_n (n := 35) dX4_assignmentAt_34 rfl rfl ?_
        refine Z_iret dX4_assignmentAt_35 rfl ?_
        refine ⟨rfl, rfl, ?_⟩; rw [i4_2, show k = 8 by omega]; rfl
      · refine Z_iload_n (n := 11) dX4_assignmentAt_10 rfl rfl ?_
        refine Z_iload_n (n := 12) dX4_assignmentAt_11 rfl rfl ?_
        refine Z_bipush (n := 14) dX4_assignmentAt_12 rfl (by decide) (by decide) ?_
        refine Z_iload_n (n := 15) dX4_assignmentAt_14 rfl rfl ?_
        refine Z_isub (n := 16) dX4_assignmentAt_15 rfl (by omega) ?_
        refine Z_ishr (n := 17) dX4_assignmentAt_16 rfl ?_
        refine Z_iconst (n := 18) dX4_assignmentAt_17 rfl (by decide) ?_
        refine Z_iand (n := 19) dX4_assignmentAt_18 rfl ?_
        refine Z_aload_n (n := 20) dX4_assignmentAt_19 rfl rfl ?_
        refine Z_getA (n := 23) dX4_assignmentAt_20 rfl ffX4_29 rfl rfl ?_
        refine Z_iload_n (n := 24) dX4_assignmentAt_23 rfl rfl ?_
        refine Z_iald (n := 25) dX4_assignmentAt_24 rfl rfl rfl (by first | decide | assumption) (by omega) (by omega) (fun r24 s24 => ?_)
        refine Z_ishl (n := 26) dX4_assignmentAt_25 rfl ?_
        refine Z_ior (n := 27) dX4_assignmentAt_26 rfl ?_
        refine Z_istore_n (L' := [_, _, _, _]) (n := 28) dX4_assignmentAt_27 rfl (by decide) rfl rfl ?_
        refine Z_iinc (L' := [_, _, _, _]) (n := 31) dX4_assignmentAt_28 rfl rfl (by decide) rfl rfl (by omega) rfl ?_
        refine Z_goto (t := 4) dX4_assignmentAt_31 (by decide) ?_
        refine Z_loc (L' := [some _, some _, some _, some _]) (lsub_same (lsub_same (lsub_same (lsub_same lsub_nil)))) ?_
        exact ih4 _ _  (by omega) (by first | assumption | omega | decide) (by first | assumption | omega | decide) (by rw [asF_up _ _ i4_0, ← i4_2])
  refine Z_loc (L' := [some _, some _, some _, some _]) (lsub_same (lsub_same (lsub_same (lsub_same lsub_nil)))) ?_
  exact lp4 _ _ _  (Nat.lt_succ_self _) (by first | assumption | omega | decide) (by first | assumption | omega | decide) (by rfl)
set_option maxRecDepth 20000 in
theorem zX4_leastOf {G : tl_G} {M : zM} {J : zJ} {f y : Int} (f0 : 0 ≤ f) (f1 : f < 56) : ZN G yX4_leastOf mX4_leastOf 1 kAll [vR 31, vI f, vI y] F1 M J (qI (fun x M' J' => M' = M ∧ J' = J ∧ lsQ (bitF J f) y x)) := by
  refine ZN_of (L := [_, _, _, _]) (by decide) rfl rfl (Nat.le_of_ble_eq_true rfl) rfl (fun hav => ?_)
  refine Z_iconst (n := 1) dX4_leastOf_0 rfl (by decide) ?_
  refine Z_istore_n (L' := [_, _, _, _]) (n := 2) dX4_leastOf_1 rfl (by decide) rfl rfl ?_
  have lp2 : ∀ (N2 : Nat) (p : Int) , ((256 - p).toNat) < N2 → (0 ≤ p) → (p ≤ 256) → (∀ q : Int, 0 ≤ q → q < p → ¬ btF (bitF J f) q = y) → TZ G mX4_leastOf (tl_rm 1 0 0) 0 0 kAll M J 2 [some (vR 31), some (vI f), some (vI y), some (vI p)] [] F1 M J (ZM G (zPost G kAll F1 M J (qI (fun x M' J' => M' = M ∧ J' = J ∧ lsQ (bitF J f) y x))) 0 0) := by
    intro N2
    induction N2 with
    | zero => intro p  hN; omega
    | succ N2 ih2 =>
      intro p  hN2 i2_0 i2_1 i2_2
      refine Z_iload_n (n := 3) dX4_leastOf_2 rfl rfl ?_
      refine Z_sipush (n := 6) dX4_leastOf_3 rfl (by decide) (by decide) ?_
      refine Z_icmp_ge (n := 9) (t := 27) dX4_leastOf_6 rfl (by decide) (fun c6 => ?_) (fun c6 => ?_)
      · refine Z_iconst (n := 28) dX4_leastOf_27 rfl (by decide) ?_
        refine Z_iret dX4_leastOf_28 rfl ?_
        exact ⟨rfl, rfl, Or.inl ⟨rfl, fun q a b => i2_2 q a (by omega)⟩⟩
      · refine Z_aload_n (n := 10) dX4_leastOf_9 rfl rfl ?_
        refine Z_iload_n (n := 11) dX4_leastOf_10 rfl rfl ?_
        refine Z_iload_n (n := 12) dX4_leastOf_11 rfl rfl ?_
        refine Z_callVi (n := 15) [_, _] _ dX4_leastOf_12 rfl cwX4_240 rfl rfl rfl (Nat.le_of_ble_eq_true rfl) (by refine ⟨?_, ?_, ?_, ?_⟩ <;> exact Nat.le_of_ble_eq_true rfl) (fun _ h => h) (zX4_bit  (by first | assumption | omega | decide) (by first | assumption | omega | decide) (by first | assumption | omega | decide) (by first | assumption | omega | decide)) ?_
        intro x12 M12 J12 z12 f12 q12
        obtain ⟨e12_1, e12_2, h12⟩ := q12
        replace e12_1 := e12_1.symm; subst e12_1
        replace e12_2 := e12_2.symm; subst e12_2
        refine Z_iload_n (n := 16) dX4_leastOf_15 rfl rfl ?_
        refine Z_icmp_ne (n := 19) (t := 21) dX4_leastOf_16 rfl (by decide) (fun c16 => ?_) (fun c16 => ?_)
        · have nx : ∀ q : Int, 0 ≤ q → q < p + 1 → ¬ btF (bitF J f) q = y := fun q a b => by
            by_cases e : q = p
            · rw [e, ← h12]; exact c16
            · exact i2_2 q a (by omega)
          refine Z_iinc (L' := [_, _, _, _]) (n := 24) dX4_leastOf_21 rfl rfl (by decide) rfl rfl (by omega) rfl ?_
          refine Z_goto (t := 2) dX4_leastOf_24 (by decide) ?_
          refine Z_loc (L' := [some _, some _, some _, some _]) (lsub_same (lsub_same (lsub_same (lsub_same lsub_nil)))) ?_
          exact ih2 _  (by omega) (by first | assumption | omega | decide) (by first | assumption | omega | decide) (by exact nx)
        · refine Z_iload_n (n := 20) dX4_leastOf_19 rfl rfl ?_
          refine Z_iret dX4_leastOf_20 rfl ?_
          exact ⟨rfl, rfl, Or.inr ⟨by omega, by omega, h12.symm.trans c16, i2_2⟩⟩
  refine Z_loc (L' := [some _, some _, some _, some _]) (lsub_same (lsub_same (lsub_same (lsub_same lsub_nil)))) ?_
  exact lp2 _ _  (Nat.lt_succ_self _) (by first | assumption | omega | decide) (by first | assumption | omega | decide) (by exact fun q a b => by omega)
set_option maxRecDepth 20000 in
theorem zX4_hangs {G : tl_G} {M : zM} {J : zJ} {f pl : Int} (f0 : 0 ≤ f) (f1 : f < 56) (p0 : 0 ≤ pl) (p1 : pl < 8) : ZN G yX4_hangs mX4_hangs 1 kAll [vR 31, vI f, vI pl] F1 M J (qI (fun x M' J' => M' = M ∧ J' = J ∧ (x = 0 ∨ x = 1))) := by
  refine ZN_of (L := [_, _, _, _, _, _]) (by decide) rfl rfl (Nat.le_of_ble_eq_true rfl) rfl (fun hav => ?_)
  have hz7 := zshl1 (d := 7 - pl) (by omega) (by omega)
  refine Z_iconst (n := 1) dX4_hangs_0 rfl (by decide) ?_
  refine Z_istore_n (L' := [_, _, _, _, _, _]) (n := 2) dX4_hangs_1 rfl (by decide) rfl rfl ?_
  refine Z_iconst (n := 3) dX4_hangs_2 rfl (by decide) ?_
  refine Z_bipush (n := 5) dX4_hangs_3 rfl (by decide) (by decide) ?_
  refine Z_iload_n (n := 6) dX4_hangs_5 rfl rfl ?_
  refine Z_isub (n := 7) dX4_hangs_6 rfl (by omega) ?_
  refine Z_ishl (n := 8) dX4_hangs_7 rfl ?_
  refine Z_istore (L' := [_, _, _, _, _, _]) (n := 10) dX4_hangs_8 rfl (by decide) rfl rfl ?_
  refine Z_iconst (n := 11) dX4_hangs_10 rfl (by decide) ?_
  refine Z_istore (L' := [_, _, _, _, _, _]) (n := 13) dX4_hangs_11 rfl (by decide) rfl rfl ?_
  have lp13 : ∀ (N13 : Nat) (e p : Int) , ((256 - p).toNat) < N13 → (0 ≤ p) → (p ≤ 256) → (e = 0 ∨ e = 1) → TZ G mX4_hangs (tl_rm 1 0 0) 0 0 kAll M J 13 [some (vR 31), some (vI f), some (vI pl), some (vI e), some (vI (zshl 1 (7 - pl))), some (vI p)] [] F1 M J (ZM G (zPost G kAll F1 M J (qI (fun x M' J' => M' = M ∧ J' = J ∧ (x = 0 ∨ x = 1)))) 0 0) := by
    intro N13
    induction N13 with
    | zero => intro e p  hN; omega
    | succ N13 ih13 =>
      intro e p  hN13 i13_0 i13_1 i13_2
      refine Z_iload (n := 15) dX4_hangs_13 rfl rfl ?_
      refine Z_sipush (n := 18) dX4_hangs_15 rfl (by decide) (by decide) ?_
      refine Z_icmp_ge (n := 21) (t := 57) dX4_hangs_18 rfl (by decide) (fun c18 => ?_) (fun c18 => ?_)
      · refine Z_iload_n (n := 58) dX4_hangs_57 rfl rfl ?_
        refine Z_zret dX4_hangs_58 rfl (by omega) (by omega) ?_
        exact ⟨rfl, rfl, i13_2⟩
      · refine Z_iload_n (n := 22) dX4_hangs_21 rfl rfl ?_
        refine Z_if_ne (n := 25) (t := 45) dX4_hangs_22 rfl (by decide) (fun c22 => ?_) (fun c22 => ?_)
        · refine Z_iconst (n := 46) dX4_hangs_45 rfl (by decide) ?_
          refine Z_goto (t := 50) dX4_hangs_46 (by decide) ?_
          refine Z_istore_n (L' := [_, _, _, _, _, _]) (n := 51) dX4_hangs_50 rfl (by decide) rfl rfl ?_
          refine Z_iinc (L' := [_, _, _, _, _, _]) (n := 54) dX4_hangs_51 rfl rfl (by decide) rfl rfl (by omega) rfl ?_
          refine Z_goto (t := 13) dX4_hangs_54 (by decide) ?_
          refine Z_loc (L' := [some _, some _, some _, some _, some _, some _]) (lsub_same (lsub_same (lsub_same (lsub_same (lsub_same (lsub_same lsub_nil)))))) ?_
          exact ih13 _ _  (by omega) (by first | assumption | omega | decide) (by first | assumption | omega | decide) (by first | assumption | omega | decide)
        · refine Z_aload_n (n := 26) dX4_hangs_25 rfl rfl ?_
          refine Z_iload_n (n := 27) dX4_hangs_26 rfl rfl ?_
          refine Z_iload (n := 29) dX4_hangs_27 rfl rfl ?_
          refine Z_callVi (n := 32) [_, _] _ dX4_hangs_29 rfl cwX4_240 rfl rfl rfl (Nat.le_of_ble_eq_true rfl) (by refine ⟨?_, ?_, ?_, ?_⟩ <;> exact Nat.le_of_ble_eq_true rfl) (fun _ h => h) (zX4_bit  (by first | assumption | omega | decide) (by first | assumption | omega | decide) (by first | assumption | omega | decide) (by first | assumption | omega | decide)) ?_
          intro x29 M29 J29 z29 f29 q29
          obtain ⟨e29_1, e29_2, h29⟩ := q29
          replace e29_1 := e29_1.symm; subst e29_1
          replace e29_2 := e29_2.symm; subst e29_2
          refine Z_aload_n (n := 33) dX4_hangs_32 rfl rfl ?_
          refine Z_iload_n (n := 34) dX4_hangs_33 rfl rfl ?_
          refine Z_iload (n := 36) dX4_hangs_34 rfl rfl ?_
          refine Z_iload (n := 38) dX4_hangs_36 rfl rfl ?_
          refine Z_ixor (n := 39) dX4_hangs_38 rfl ?_
          have hzx := zxor_in (x := p) (y := zshl 1 (7 - pl)) (by omega) (by omega) (by omega) (by omega)
          refine Z_callVi (n := 42) [_, _] _ dX4_hangs_39 rfl cwX4_240 rfl rfl rfl (Nat.le_of_ble_eq_true rfl) (by refine ⟨?_, ?_, ?_, ?_⟩ <;> exact Nat.le_of_ble_eq_true rfl) (fun _ h => h) (zX4_bit  (by first | assumption | omega | decide) (by first | assumption | omega | decide) (by first | assumption | omega | decide) (by first | assumption | omega | decide)) ?_
          intro x39 M39 J39 z39 f39 q39
          obtain ⟨e39_1, e39_2, h39⟩ := q39
          replace e39_1 := e39_1.symm; subst e39_1
          replace e39_2 := e39_2.symm; subst e39_2
          refine Z_icmp_eq (n := 45) (t := 49) dX4_hangs_42 rfl (by decide) (fun c42 => ?_) (fun c42 => ?_)
          · refine Z_iconst (n := 50) dX4_hangs_49 rfl (by decide) ?_
            refine Z_istore_n (L' := [_, _, _, _, _, _]) (n := 51) dX4_hangs_50 rfl (by decide) rfl rfl ?_
            refine Z_iinc (L' := [_, _, _, _, _, _]) (n := 54) dX4_hangs_51 rfl rfl (by decide) rfl rfl (by omega) rfl ?_
            refine Z_goto (t := 13) dX4_hangs_54 (by decide) ?_
            refine Z_loc (L' := [some _, some _, some _, some _, some _, some _]) (lsub_same (lsub_same (lsub_same (lsub_same (lsub_same (lsub_same lsub_nil)))))) ?_
            exact ih13 _ _  (by omega) (by first | assumption | omega | decide) (by first | assumption | omega | decide) (by first | assumption | omega | decide)
          · refine Z_iconst (n := 46) dX4_hangs_45 rfl (by decide) ?_
            refine Z_goto (t := 50) dX4_hangs_46 (by decide) ?_
            refine Z_istore_n (L' := [_, _, _, _, _, _]) (n := 51) dX4_hangs_50 rfl (by decide) rfl rfl ?_
            refine Z_iinc (L' := [_, _, _, _, _, _]) (n := 54) dX4_hangs_51 rfl rfl (by decide) rfl rfl (by omega) rfl ?_
            refine Z_goto (t := 13) dX4_hangs_54 (by decide) ?_
            refine Z_loc (L' := [some _, some _, some _, some _, some _, some _]) (lsub_same (lsub_same (lsub_same (lsub_same (lsub_same (lsub_same lsub_nil)))))) ?_
            exact ih13 _ _  (by omega) (by first | assumption | omega | decide) (by first | assumption | omega | decide) (by first | assumption | omega | decide)
  refine Z_loc (L' := [some _, some _, some _, some _, some _, some _]) (lsub_same (lsub_same (lsub_same (lsub_same (lsub_same (lsub_same lsub_nil)))))) ?_
  exact lp13 _ _ _  (Nat.lt_succ_self _) (by first | assumption | omega | decide) (by first | assumption | omega | decide) (by first | assumption | omega | decide)
set_option maxRecDepth 20000 in
theorem zX4_value_s {G : tl_G} {M : zM} {J : zJ} {f a : Int}  : ZN G yX4_value mX4_value 3 kAll [vR 31, vI f, vI a] F1 M J (qI (fun x M' J' => M' = M ∧ J' = J)) := by
  refine ZN_of (L := [_, _, _]) (by decide) rfl rfl (Nat.le_of_ble_eq_true rfl) rfl (fun hav => ?_)
  refine Z_aload_n (n := 1) dX4_value_0 rfl rfl ?_
  refine Z_iload_n (n := 2) dX4_value_1 rfl rfl ?_
  refine Z_callVi (n := 5) [_] _ dX4_value_2 rfl cwX4_223 rfl rfl rfl (Nat.le_of_ble_eq_true rfl) (by refine ⟨?_, ?_, ?_, ?_⟩ <;> exact Nat.le_of_ble_eq_true rfl) (fun _ h => h) (zX4_isFunction  ) ?_
  intro x2 M2 J2 z2 f2 q2
  obtain ⟨e2_1, e2_2, h2⟩ := q2
  replace e2_1 := e2_1.symm; subst e2_1
  replace e2_2 := e2_2.symm; subst e2_2
  refine Z_if_ne (n := 8) (t := 10) dX4_value_5 rfl (by decide) (fun c5 => ?_) (fun c5 => ?_)
  · refine Z_iload_n (n := 11) dX4_value_10 rfl rfl ?_
    refine Z_iconst (n := 12) dX4_value_11 rfl (by decide) ?_
    refine Z_sipush (n := 15) dX4_value_12 rfl (by decide) (by decide) ?_
    refine Z_callSi (n := 18) [_, _, _] _ dX4_value_15 rfl cwX4_112 rfl rfl (Nat.le_of_ble_eq_true rfl) (by refine ⟨?_, ?_, ?_, ?_⟩ <;> exact Nat.le_of_ble_eq_true rfl) (fun _ h => h) (zX4_in  ) ?_
    intro x15 M15 J15 z15 f15 q15
    obtain ⟨e15_1, e15_2, h15⟩ := q15
    replace e15_1 := e15_1.symm; subst e15_1
    replace e15_2 := e15_2.symm; subst e15_2
    refine Z_if_ne (n := 21) (t := 24) dX4_value_18 rfl (by decide) (fun c18 => ?_) (fun c18 => ?_)
    · refine Z_aload_n (n := 25) dX4_value_24 rfl rfl ?_
      refine Z_iload_n (n := 26) dX4_value_25 rfl rfl ?_
      refine Z_aload_n (n := 27) dX4_value_26 rfl rfl ?_
      refine Z_iload_n (n := 28) dX4_value_27 rfl rfl ?_
      refine Z_callVi (n := 31) [_] _ dX4_value_28 rfl cwX4_237 rfl rfl rfl (Nat.le_of_ble_eq_true rfl) (by refine ⟨?_, ?_, ?_, ?_⟩ <;> exact Nat.le_of_ble_eq_true rfl) (fun _ h => h) (zX4_stands  ) ?_
      intro x28 M28 J28 z28 f28 q28
      obtain ⟨e28_1, e28_2, h28⟩ := q28
      replace e28_1 := e28_1.symm; subst e28_1
      replace e28_2 := e28_2.symm; subst e28_2
      have hst := stF_256 (M 38) a (n := 8) (by omega)
      rw [← h28] at hst
      refine Z_callVi (n := 34) [_, _] _ dX4_value_31 rfl cwX4_240 rfl rfl rfl (Nat.le_of_ble_eq_true rfl) (by refine ⟨?_, ?_, ?_, ?_⟩ <;> exact Nat.le_of_ble_eq_true rfl) (fun _ h => h) (zX4_bit  (by first | assumption | omega | decide) (by first | assumption | omega | decide) (by first | assumption | omega | decide) (by first | assumption | omega | decide)) ?_
      intro x31 M31 J31 z31 f31 q31
      obtain ⟨e31_1, e31_2, h31⟩ := q31
      replace e31_1 := e31_1.symm; subst e31_1
      replace e31_2 := e31_2.symm; subst e31_2
      refine Z_if_eq (n := 37) (t := 41) dX4_value_34 rfl (by decide) (fun c34 => ?_) (fun c34 => ?_)
      · refine Z_iconst (n := 42) dX4_value_41 rfl (by decide) ?_
        refine Z_iret dX4_value_42 rfl ?_
        exact ⟨rfl, rfl⟩
      · refine Z_iconst (n := 38) dX4_value_37 rfl (by decide) ?_
        refine Z_goto (t := 42) dX4_value_38 (by decide) ?_
        refine Z_iret dX4_value_42 rfl ?_
        exact ⟨rfl, rfl⟩
    · refine Z_bipush (n := 23) dX4_value_21 rfl (by decide) (by decide) ?_
      refine Z_iret dX4_value_23 rfl ?_
      exact ⟨rfl, rfl⟩
  · refine Z_iconst (n := 9) dX4_value_8 rfl (by decide) ?_
    refine Z_iret dX4_value_9 rfl ?_
    exact ⟨rfl, rfl⟩
set_option maxRecDepth 20000 in
theorem zX4_same_s {G : tl_G} {M : zM} {J : zJ} {f g : Int}  : ZN G yX4_same mX4_same 3 kAll [vR 31, vI f, vI g] F1 M J (qI (fun x M' J' => M' = M ∧ J' = J)) := by
  refine ZN_of (L := [_, _, _, _, _]) (by decide) rfl rfl (Nat.le_of_ble_eq_true rfl) rfl (fun hav => ?_)
  refine Z_aload_n (n := 1) dX4_same_0 rfl rfl ?_
  refine Z_iload_n (n := 2) dX4_same_1 rfl rfl ?_
  refine Z_callVi (n := 5) [_] _ dX4_same_2 rfl cwX4_223 rfl rfl rfl (Nat.le_of_ble_eq_true rfl) (by refine ⟨?_, ?_, ?_, ?_⟩ <;> exact Nat.le_of_ble_eq_true rfl) (fun _ h => h) (zX4_isFunction  ) ?_
  intro x2 M2 J2 z2 f2 q2
  obtain ⟨e2_1, e2_2, h2⟩ := q2
  replace e2_1 := e2_1.symm; subst e2_1
  replace e2_2 := e2_2.symm; subst e2_2
  refine Z_if_eq (n := 8) (t := 16) dX4_same_5 rfl (by decide) (fun c5 => ?_) (fun c5 => ?_)
  · refine Z_iconst (n := 17) dX4_same_16 rfl (by decide) ?_
    refine Z_iret dX4_same_17 rfl ?_
    exact ⟨rfl, rfl⟩
  · refine Z_aload_n (n := 9) dX4_same_8 rfl rfl ?_
    refine Z_iload_n (n := 10) dX4_same_9 rfl rfl ?_
    refine Z_callVi (n := 13) [_] _ dX4_same_10 rfl cwX4_223 rfl rfl rfl (Nat.le_of_ble_eq_true rfl) (by refine ⟨?_, ?_, ?_, ?_⟩ <;> exact Nat.le_of_ble_eq_true rfl) (fun _ h => h) (zX4_isFunction  ) ?_
    intro x10 M10 J10 z10 f10 q10
    obtain ⟨e10_1, e10_2, h10⟩ := q10
    replace e10_1 := e10_1.symm; subst e10_1
    replace e10_2 := e10_2.symm; subst e10_2
    refine Z_if_ne (n := 16) (t := 18) dX4_same_13 rfl (by decide) (fun c13 => ?_) (fun c13 => ?_)
    · refine Z_iconst (n := 19) dX4_same_18 rfl (by decide) ?_
      refine Z_istore_n (L' := [_, _, _, _, _]) (n := 20) dX4_same_19 rfl (by decide) rfl rfl ?_
      refine Z_iconst (n := 21) dX4_same_20 rfl (by decide) ?_
      refine Z_istore (L' := [_, _, _, _, _]) (n := 23) dX4_same_21 rfl (by decide) rfl rfl ?_
      have lp23 : ∀ (N23 : Nat) (e k : Int) , ((4 - k).toNat) < N23 → (0 ≤ k) → (k ≤ 4) → TZ G mX4_same (tl_rm 3 0 0) 0 0 kAll M J 23 [some (vR 31), some (vI f), some (vI g), some (vI e), some (vI k)] [] F1 M J (ZM G (zPost G kAll F1 M J (qI (fun x M' J' => M' = M ∧ J' = J))) 0 0) := by
        intro N23
        induction N23 with
        | zero => intro e k  hN; omega
        | succ N23 ih23 =>
          intro e k  hN23 i23_0 i23_1
          refine Z_iload (n := 25) dX4_same_23 rfl rfl ?_
          refine Z_iconst (n := 26) dX4_same_25 rfl (by decide) ?_
          refine Z_icmp_ge (n := 29) (t := 71) dX4_same_26 rfl (by decide) (fun c26 => ?_) (fun c26 => ?_)
          · refine Z_iload_n (n := 72) dX4_same_71 rfl rfl ?_
            refine Z_if_eq (n := 75) (t := 79) dX4_same_72 rfl (by decide) (fun c72 => ?_) (fun c72 => ?_)
            · refine Z_iconst (n := 80) dX4_same_79 rfl (by decide) ?_
              refine Z_iret dX4_same_80 rfl ?_
              exact ⟨rfl, rfl⟩
            · refine Z_iconst (n := 76) dX4_same_75 rfl (by decide) ?_
              refine Z_goto (t := 80) dX4_same_76 (by decide) ?_
              refine Z_iret dX4_same_80 rfl ?_
              exact ⟨rfl, rfl⟩
          · refine Z_iload_n (n := 30) dX4_same_29 rfl rfl ?_
            refine Z_if_eq (n := 33) (t := 63) dX4_same_30 rfl (by decide) (fun c30 => ?_) (fun c30 => ?_)
            · refine Z_iconst (n := 64) dX4_same_63 rfl (by decide) ?_
              refine Z_istore_n (L' := [_, _, _, _, _]) (n := 65) dX4_same_64 rfl (by decide) rfl rfl ?_
              refine Z_iinc (L' := [_, _, _, _, _]) (n := 68) dX4_same_65 rfl rfl (by decide) rfl rfl (by omega) rfl ?_
              refine Z_goto (t := 23) dX4_same_68 (by decide) ?_
              refine Z_loc (L' := [some _, some _, some _, some _, some _]) (lsub_same (lsub_same (lsub_same (lsub_same (lsub_same lsub_nil))))) ?_
              exact ih23 _ _  (by omega) (by first | assumption | omega | decide) (by first | assumption | omega | decide)
            · refine Z_aload_n (n := 34) dX4_same_33 rfl rfl ?_
              refine Z_getA (n := 37) dX4_same_34 rfl ffX4_47 rfl rfl ?_
              refine Z_iconst (n := 38) dX4_same_37 rfl (by decide) ?_
              refine Z_iload_n (n := 39) dX4_same_38 rfl rfl ?_
              refine Z_imul (n := 40) dX4_same_39 rfl (by omega) ?_
              refine Z_iload (n := 42) dX4_same_40 rfl rfl ?_
              refine Z_iadd (n := 43) dX4_same_42 rfl (by omega) ?_
              refine Z_lald (n := 44) dX4_same_43 rfl rfl (by decide) (by omega) (by omega) ?_
              refine Z_aload_n (n := 45) dX4_same_44 rfl rfl ?_
              refine Z_getA (n := 48) dX4_same_45 rfl ffX4_47 rfl rfl ?_
              refine Z_iconst (n := 49) dX4_same_48 rfl (by decide) ?_
              refine Z_iload_n (n := 50) dX4_same_49 rfl rfl ?_
              refine Z_imul (n := 51) dX4_same_50 rfl (by omega) ?_
              refine Z_iload (n := 53) dX4_same_51 rfl rfl ?_
              refine Z_iadd (n := 54) dX4_same_53 rfl (by omega) ?_
              refine Z_lald (n := 55) dX4_same_54 rfl rfl (by decide) (by omega) (by omega) ?_
              refine Z_lcmp (n := 56) dX4_same_55 rfl ?_
              refine Z_if_ne (n := 59) (t := 63) dX4_same_56 rfl (by decide) (fun c56 => ?_) (fun c56 => ?_)
              · refine Z_iconst (n := 64) dX4_same_63 rfl (by decide) ?_
                refine Z_istore_n (L' := [_, _, _, _, _]) (n := 65) dX4_same_64 rfl (by decide) rfl rfl ?_
                refine Z_iinc (L' := [_, _, _, _, _]) (n := 68) dX4_same_65 rfl rfl (by decide) rfl rfl (by omega) rfl ?_
                refine Z_goto (t := 23) dX4_same_68 (by decide) ?_
                refine Z_loc (L' := [some _, some _, some _, some _, some _]) (lsub_same (lsub_same (lsub_same (lsub_same (lsub_same lsub_nil))))) ?_
                exact ih23 _ _  (by omega) (by first | assumption | omega | decide) (by first | assumption | omega | decide)
              · refine Z_iconst (n := 60) dX4_same_59 rfl (by decide) ?_
                refine Z_goto (t := 64) dX4_same_60 (by decide) ?_
                refine Z_istore_n (L' := [_, _, _, _, _]) (n := 65) dX4_same_64 rfl (by decide) rfl rfl ?_
                refine Z_iinc (L' := [_, _, _, _, _]) (n := 68) dX4_same_65 rfl rfl (by decide) rfl rfl (by omega) rfl ?_
                refine Z_goto (t := 23) dX4_same_68 (by decide) ?_
                refine Z_loc (L' := [some _, some _, some _, some _, some _]) (lsub_same (lsub_same (lsub_same (lsub_same (lsub_same lsub_nil))))) ?_
                exact ih23 _ _  (by omega) (by first | assumption | omega | decide) (by first | assumption | omega | decide)
      refine Z_loc (L' := [some _, some _, some _, some _, some _]) (lsub_same (lsub_same (lsub_same (lsub_same (lsub_same lsub_nil))))) ?_
      exact lp23 _ _ _  (Nat.lt_succ_self _) (by first | assumption | omega | decide) (by first | assumption | omega | decide)
    · refine Z_iconst (n := 17) dX4_same_16 rfl (by decide) ?_
      refine Z_iret dX4_same_17 rfl ?_
      exact ⟨rfl, rfl⟩
set_option maxRecDepth 20000 in
theorem zX4_count_s {G : tl_G} {M : zM} {J : zJ} {f : Int}  : ZN G yX4_count mX4_count 3 kAll [vR 31, vI f] F1 M J (qI (fun x M' J' => M' = M ∧ J' = J)) := by
  refine ZN_of (L := [_, _, _, _]) (by decide) rfl rfl (Nat.le_of_ble_eq_true rfl) rfl (fun hav => ?_)
  refine Z_aload_n (n := 1) dX4_count_0 rfl rfl ?_
  refine Z_iload_n (n := 2) dX4_count_1 rfl rfl ?_
  refine Z_callVi (n := 5) [_] _ dX4_count_2 rfl cwX4_223 rfl rfl rfl (Nat.le_of_ble_eq_true rfl) (by refine ⟨?_, ?_, ?_, ?_⟩ <;> exact Nat.le_of_ble_eq_true rfl) (fun _ h => h) (zX4_isFunction  ) ?_
  intro x2 M2 J2 z2 f2 q2
  obtain ⟨e2_1, e2_2, h2⟩ := q2
  replace e2_1 := e2_1.symm; subst e2_1
  replace e2_2 := e2_2.symm; subst e2_2
  refine Z_if_ne (n := 8) (t := 10) dX4_count_5 rfl (by decide) (fun c5 => ?_) (fun c5 => ?_)
  · refine Z_iconst (n := 11) dX4_count_10 rfl (by decide) ?_
    refine Z_istore_n (L' := [_, _, _, _]) (n := 12) dX4_count_11 rfl (by decide) rfl rfl ?_
    refine Z_iconst (n := 13) dX4_count_12 rfl (by decide) ?_
    refine Z_istore_n (L' := [_, _, _, _]) (n := 14) dX4_count_13 rfl (by decide) rfl rfl ?_
    have lp14 : ∀ (N14 : Nat) (n p : Int) , ((256 - p).toNat) < N14 → (0 ≤ p) → (p ≤ 256) → (0 ≤ n) → (n ≤ p) → TZ G mX4_count (tl_rm 3 0 0) 0 0 kAll M J 14 [some (vR 31), some (vI f), some (vI n), some (vI p)] [] F1 M J (ZM G (zPost G kAll F1 M J (qI (fun x M' J' => M' = M ∧ J' = J))) 0 0) := by
      intro N14
      induction N14 with
      | zero => intro n p  hN; omega
      | succ N14 ih14 =>
        intro n p  hN14 i14_0 i14_1 i14_2 i14_3
        refine Z_iload_n (n := 15) dX4_count_14 rfl rfl ?_
        refine Z_sipush (n := 18) dX4_count_15 rfl (by decide) (by decide) ?_
        refine Z_icmp_ge (n := 21) (t := 44) dX4_count_18 rfl (by decide) (fun c18 => ?_) (fun c18 => ?_)
        · refine Z_iload_n (n := 45) dX4_count_44 rfl rfl ?_
          refine Z_iret dX4_count_45 rfl ?_
          exact ⟨rfl, rfl⟩
        · refine Z_iload_n (n := 22) dX4_count_21 rfl rfl ?_
          refine Z_aload_n (n := 23) dX4_count_22 rfl rfl ?_
          refine Z_iload_n (n := 24) dX4_count_23 rfl rfl ?_
          refine Z_iload_n (n := 25) dX4_count_24 rfl rfl ?_
          refine Z_callVi (n := 28) [_, _] _ dX4_count_25 rfl cwX4_240 rfl rfl rfl (Nat.le_of_ble_eq_true rfl) (by refine ⟨?_, ?_, ?_, ?_⟩ <;> exact Nat.le_of_ble_eq_true rfl) (fun _ h => h) (zX4_bit  (by first | assumption | omega | decide) (by first | assumption | omega | decide) (by first | assumption | omega | decide) (by first | assumption | omega | decide)) ?_
          intro x25 M25 J25 z25 f25 q25
          obtain ⟨e25_1, e25_2, h25⟩ := q25
          replace e25_1 := e25_1.symm; subst e25_1
          replace e25_2 := e25_2.symm; subst e25_2
          refine Z_if_eq (n := 31) (t := 35) dX4_count_28 rfl (by decide) (fun c28 => ?_) (fun c28 => ?_)
          · refine Z_iconst (n := 36) dX4_count_35 rfl (by decide) ?_
            refine Z_iadd (n := 37) dX4_count_36 rfl (by omega) ?_
            refine Z_istore_n (L' := [_, _, _, _]) (n := 38) dX4_count_37 rfl (by decide) rfl rfl ?_
            refine Z_iinc (L' := [_, _, _, _]) (n := 41) dX4_count_38 rfl rfl (by decide) rfl rfl (by omega) rfl ?_
            refine Z_goto (t := 14) dX4_count_41 (by decide) ?_
            refine Z_loc (L' := [some _, some _, some _, some _]) (lsub_same (lsub_same (lsub_same (lsub_same lsub_nil)))) ?_
            exact ih14 _ _  (by omega) (by first | assumption | omega | decide) (by first | assumption | omega | decide) (by first | assumption | omega | decide) (by first | assumption | omega | decide)
          · refine Z_iconst (n := 32) dX4_count_31 rfl (by decide) ?_
            refine Z_goto (t := 36) dX4_count_32 (by decide) ?_
            refine Z_iadd (n := 37) dX4_count_36 rfl (by omega) ?_
            refine Z_istore_n (L' := [_, _, _, _]) (n := 38) dX4_count_37 rfl (by decide) rfl rfl ?_
            refine Z_iinc (L' := [_, _, _, _]) (n := 41) dX4_count_38 rfl rfl (by decide) rfl rfl (by omega) rfl ?_
            refine Z_goto (t := 14) dX4_count_41 (by decide) ?_
            refine Z_loc (L' := [some _, some _, some _, some _]) (lsub_same (lsub_same (lsub_same (lsub_same lsub_nil)))) ?_
            exact ih14 _ _  (by omega) (by first | assumption | omega | decide) (by first | assumption | omega | decide) (by first | assumption | omega | decide) (by first | assumption | omega | decide)
    refine Z_loc (L' := [some _, some _, some _, some _]) (lsub_same (lsub_same (lsub_same (lsub_same lsub_nil)))) ?_
    exact lp14 _ _ _  (Nat.lt_succ_self _) (by first | assumption | omega | decide) (by first | assumption | omega | decide) (by first | assumption | omega | decide) (by first | assumption | omega | decide)
  · refine Z_iconst (n := 9) dX4_count_8 rfl (by decide) ?_
    refine Z_iret dX4_count_9 rfl ?_
    exact ⟨rfl, rfl⟩
set_option maxRecDepth 20000 in
theorem zX4_support_s {G : tl_G} {M : zM} {J : zJ} {f : Int}  : ZN G yX4_support mX4_support 3 kAll [vR 31, vI f] F1 M J (qI (fun x M' J' => M' = M ∧ J' = J)) := by
  refine ZN_of (L := [_, _, _, _]) (by decide) rfl rfl (Nat.le_of_ble_eq_true rfl) rfl (fun hav => ?_)
  refine Z_aload_n (n := 1) dX4_support_0 rfl rfl ?_
  refine Z_iload_n (n := 2) dX4_support_1 rfl rfl ?_
  refine Z_callVi (n := 5) [_] _ dX4_support_2 rfl cwX4_223 rfl rfl rfl (Nat.le_of_ble_eq_true rfl) (by refine ⟨?_, ?_, ?_, ?_⟩ <;> exact Nat.le_of_ble_eq_true rfl) (fun _ h => h) (zX4_isFunction  ) ?_
  intro x2 M2 J2 z2 f2 q2
  obtain ⟨e2_1, e2_2, h2⟩ := q2
  replace e2_1 := e2_1.symm; subst e2_1
  replace e2_2 := e2_2.symm; subst e2_2
  refine Z_if_ne (n := 8) (t := 10) dX4_support_5 rfl (by decide) (fun c5 => ?_) (fun c5 => ?_)
  · refine Z_iconst (n := 11) dX4_support_10 rfl (by decide) ?_
    refine Z_istore_n (L' := [_, _, _, _]) (n := 12) dX4_support_11 rfl (by decide) rfl rfl ?_
    refine Z_iconst (n := 13) dX4_support_12 rfl (by decide) ?_
    refine Z_istore_n (L' := [_, _, _, _]) (n := 14) dX4_support_13 rfl (by decide) rfl rfl ?_
    have lp14 : ∀ (N14 : Nat) (n k : Int) , ((8 - k).toNat) < N14 → (0 ≤ k) → (k ≤ 8) → TZ G mX4_support (tl_rm 3 0 0) 0 0 kAll M J 14 [some (vR 31), some (vI f), some (vI n), some (vI k)] [] F1 M J (ZM G (zPost G kAll F1 M J (qI (fun x M' J' => M' = M ∧ J' = J))) 0 0) := by
      intro N14
      induction N14 with
      | zero => intro n k  hN; omega
      | succ N14 ih14 =>
        intro n k  hN14 i14_0 i14_1
        refine Z_iload_n (n := 15) dX4_support_14 rfl rfl ?_
        refine Z_bipush (n := 17) dX4_support_15 rfl (by decide) (by decide) ?_
        refine Z_icmp_ge (n := 20) (t := 50) dX4_support_17 rfl (by decide) (fun c17 => ?_) (fun c17 => ?_)
        · refine Z_iload_n (n := 51) dX4_support_50 rfl rfl ?_
          refine Z_iret dX4_support_51 rfl ?_
          exact ⟨rfl, rfl⟩
        · refine Z_iload_n (n := 21) dX4_support_20 rfl rfl ?_
          refine Z_aload_n (n := 22) dX4_support_21 rfl rfl ?_
          refine Z_iload_n (n := 23) dX4_support_22 rfl rfl ?_
          refine Z_iload_n (n := 24) dX4_support_23 rfl rfl ?_
          refine Z_callVi (n := 27) [_, _] _ dX4_support_24 rfl cwX4_243 rfl rfl rfl (Nat.le_of_ble_eq_true rfl) (by refine ⟨?_, ?_, ?_, ?_⟩ <;> exact Nat.le_of_ble_eq_true rfl) (fun _ h => h) (zX4_hangs  (by first | assumption | omega | decide) (by first | assumption | omega | decide) (by first | assumption | omega | decide) (by first | assumption | omega | decide)) ?_
          intro x24 M24 J24 z24 f24 q24
          obtain ⟨e24_1, e24_2, h24⟩ := q24
          replace e24_1 := e24_1.symm; subst e24_1
          replace e24_2 := e24_2.symm; subst e24_2
          refine Z_if_eq (n := 30) (t := 41) dX4_support_27 rfl (by decide) (fun c27 => ?_) (fun c27 => ?_)
          · refine Z_iconst (n := 42) dX4_support_41 rfl (by decide) ?_
            refine Z_ior (n := 43) dX4_support_42 rfl ?_
            refine Z_istore_n (L' := [_, _, _, _]) (n := 44) dX4_support_43 rfl (by decide) rfl rfl ?_
            refine Z_iinc (L' := [_, _, _, _]) (n := 47) dX4_support_44 rfl rfl (by decide) rfl rfl (by omega) rfl ?_
            refine Z_goto (t := 14) dX4_support_47 (by decide) ?_
            refine Z_loc (L' := [some _, some _, some _, some _]) (lsub_same (lsub_same (lsub_same (lsub_same lsub_nil)))) ?_
            exact ih14 _ _  (by omega) (by first | assumption | omega | decide) (by first | assumption | omega | decide)
          · refine Z_iconst (n := 31) dX4_support_30 rfl (by decide) ?_
            refine Z_aload_n (n := 32) dX4_support_31 rfl rfl ?_
            refine Z_getA (n := 35) dX4_support_32 rfl ffX4_29 rfl rfl ?_
            refine Z_iload_n (n := 36) dX4_support_35 rfl rfl ?_
            refine Z_iald (n := 37) dX4_support_36 rfl rfl rfl (by first | decide | assumption) (by omega) (by omega) (fun r36 s36 => ?_)
            refine Z_ishl (n := 38) dX4_support_37 rfl ?_
            refine Z_goto (t := 42) dX4_support_38 (by decide) ?_
            refine Z_ior (n := 43) dX4_support_42 rfl ?_
            refine Z_istore_n (L' := [_, _, _, _]) (n := 44) dX4_support_43 rfl (by decide) rfl rfl ?_
            refine Z_iinc (L' := [_, _, _, _]) (n := 47) dX4_support_44 rfl rfl (by decide) rfl rfl (by omega) rfl ?_
            refine Z_goto (t := 14) dX4_support_47 (by decide) ?_
            refine Z_loc (L' := [some _, some _, some _, some _]) (lsub_same (lsub_same (lsub_same (lsub_same lsub_nil)))) ?_
            exact ih14 _ _  (by omega) (by first | assumption | omega | decide) (by first | assumption | omega | decide)
    refine Z_loc (L' := [some _, some _, some _, some _]) (lsub_same (lsub_same (lsub_same (lsub_same lsub_nil)))) ?_
    exact lp14 _ _ _  (Nat.lt_succ_self _) (by first | assumption | omega | decide) (by first | assumption | omega | decide)
  · refine Z_iconst (n := 9) dX4_support_8 rfl (by decide) ?_
    refine Z_iret dX4_support_9 rfl ?_
    exact ⟨rfl, rfl⟩
set_option maxRecDepth 20000 in
theorem zX4_top_s {G : tl_G} {M : zM} {J : zJ} {f : Int}  : ZN G yX4_top mX4_top 3 kAll [vR 31, vI f] F1 M J (qI (fun x M' J' => M' = M ∧ J' = J)) := by
  refine ZN_of (L := [_, _, _]) (by decide) rfl rfl (Nat.le_of_ble_eq_true rfl) rfl (fun hav => ?_)
  refine Z_aload_n (n := 1) dX4_top_0 rfl rfl ?_
  refine Z_iload_n (n := 2) dX4_top_1 rfl rfl ?_
  refine Z_callVi (n := 5) [_] _ dX4_top_2 rfl cwX4_223 rfl rfl rfl (Nat.le_of_ble_eq_true rfl) (by refine ⟨?_, ?_, ?_, ?_⟩ <;> exact Nat.le_of_ble_eq_true rfl) (fun _ h => h) (zX4_isFunction  ) ?_
  intro x2 M2 J2 z2 f2 q2
  obtain ⟨e2_1, e2_2, h2⟩ := q2
  replace e2_1 := e2_1.symm; subst e2_1
  replace e2_2 := e2_2.symm; subst e2_2
  refine Z_if_ne (n := 8) (t := 10) dX4_top_5 rfl (by decide) (fun c5 => ?_) (fun c5 => ?_)
  · refine Z_iconst (n := 11) dX4_top_10 rfl (by decide) ?_
    refine Z_istore_n (L' := [_, _, _]) (n := 12) dX4_top_11 rfl (by decide) rfl rfl ?_
    have lp12 : ∀ (N12 : Nat) (k : Int) , ((8 - k).toNat) < N12 → (0 ≤ k) → (k ≤ 8) → TZ G mX4_top (tl_rm 3 0 0) 0 0 kAll M J 12 [some (vR 31), some (vI f), some (vI k)] [] F1 M J (ZM G (zPost G kAll F1 M J (qI (fun x M' J' => M' = M ∧ J' = J))) 0 0) := by
      intro N12
      induction N12 with
      | zero => intro k  hN; omega
      | succ N12 ih12 =>
        intro k  hN12 i12_0 i12_1
        refine Z_iload_n (n := 13) dX4_top_12 rfl rfl ?_
        refine Z_bipush (n := 15) dX4_top_13 rfl (by decide) (by decide) ?_
        refine Z_icmp_ge (n := 18) (t := 40) dX4_top_15 rfl (by decide) (fun c15 => ?_) (fun c15 => ?_)
        · refine Z_bipush (n := 42) dX4_top_40 rfl (by decide) (by decide) ?_
          refine Z_iret dX4_top_42 rfl ?_
          exact ⟨rfl, rfl⟩
        · refine Z_aload_n (n := 19) dX4_top_18 rfl rfl ?_
          refine Z_iload_n (n := 20) dX4_top_19 rfl rfl ?_
          refine Z_iload_n (n := 21) dX4_top_20 rfl rfl ?_
          refine Z_callVi (n := 24) [_, _] _ dX4_top_21 rfl cwX4_243 rfl rfl rfl (Nat.le_of_ble_eq_true rfl) (by refine ⟨?_, ?_, ?_, ?_⟩ <;> exact Nat.le_of_ble_eq_true rfl) (fun _ h => h) (zX4_hangs  (by first | assumption | omega | decide) (by first | assumption | omega | decide) (by first | assumption | omega | decide) (by first | assumption | omega | decide)) ?_
          intro x21 M21 J21 z21 f21 q21
          obtain ⟨e21_1, e21_2, h21⟩ := q21
          replace e21_1 := e21_1.symm; subst e21_1
          replace e21_2 := e21_2.symm; subst e21_2
          refine Z_if_eq (n := 27) (t := 34) dX4_top_24 rfl (by decide) (fun c24 => ?_) (fun c24 => ?_)
          · refine Z_iinc (L' := [_, _, _]) (n := 37) dX4_top_34 rfl rfl (by decide) rfl rfl (by omega) rfl ?_
            refine Z_goto (t := 12) dX4_top_37 (by decide) ?_
            refine Z_loc (L' := [some _, some _, some _]) (lsub_same (lsub_same (lsub_same lsub_nil))) ?_
            exact ih12 _  (by omega) (by first | assumption | omega | decide) (by first | assumption | omega | decide)
          · refine Z_aload_n (n := 28) dX4_top_27 rfl rfl ?_
            refine Z_getA (n := 31) dX4_top_28 rfl ffX4_29 rfl rfl ?_
            refine Z_iload_n (n := 32) dX4_top_31 rfl rfl ?_
            refine Z_iald (n := 33) dX4_top_32 rfl rfl rfl (by first | decide | assumption) (by omega) (by omega) (fun r32 s32 => ?_)
            refine Z_iret dX4_top_33 rfl ?_
            exact ⟨rfl, rfl⟩
    refine Z_loc (L' := [some _, some _, some _]) (lsub_same (lsub_same (lsub_same lsub_nil))) ?_
    exact lp12 _ _  (Nat.lt_succ_self _) (by first | assumption | omega | decide) (by first | assumption | omega | decide)
  · refine Z_iconst (n := 9) dX4_top_8 rfl (by decide) ?_
    refine Z_iret dX4_top_9 rfl ?_
    exact ⟨rfl, rfl⟩
set_option maxRecDepth 20000 in
theorem zX4_level_s {G : tl_G} {M : zM} {J : zJ} {f v : Int}  : ZN G yX4_level mX4_level 3 kAll [vR 31, vI f, vI v] F1 M J (qI (fun x M' J' => M' = M ∧ J' = J)) := by
  refine ZN_of (L := [_, _, _, _, _]) (by decide) rfl rfl (Nat.le_of_ble_eq_true rfl) rfl (fun hav => ?_)
  refine Z_aload_n (n := 1) dX4_level_0 rfl rfl ?_
  refine Z_iload_n (n := 2) dX4_level_1 rfl rfl ?_
  refine Z_callVi (n := 5) [_] _ dX4_level_2 rfl cwX4_223 rfl rfl rfl (Nat.le_of_ble_eq_true rfl) (by refine ⟨?_, ?_, ?_, ?_⟩ <;> exact Nat.le_of_ble_eq_true rfl) (fun _ h => h) (zX4_isFunction  ) ?_
  intro x2 M2 J2 z2 f2 q2
  obtain ⟨e2_1, e2_2, h2⟩ := q2
  replace e2_1 := e2_1.symm; subst e2_1
  replace e2_2 := e2_2.symm; subst e2_2
  refine Z_if_ne (n := 8) (t := 10) dX4_level_5 rfl (by decide) (fun c5 => ?_) (fun c5 => ?_)
  · refine Z_iload_n (n := 11) dX4_level_10 rfl rfl ?_
    refine Z_iconst (n := 12) dX4_level_11 rfl (by decide) ?_
    refine Z_bipush (n := 14) dX4_level_12 rfl (by decide) (by decide) ?_
    refine Z_callSi (n := 17) [_, _, _] _ dX4_level_14 rfl cwX4_112 rfl rfl (Nat.le_of_ble_eq_true rfl) (by refine ⟨?_, ?_, ?_, ?_⟩ <;> exact Nat.le_of_ble_eq_true rfl) (fun _ h => h) (zX4_in  ) ?_
    intro x14 M14 J14 z14 f14 q14
    obtain ⟨e14_1, e14_2, h14⟩ := q14
    replace e14_1 := e14_1.symm; subst e14_1
    replace e14_2 := e14_2.symm; subst e14_2
    refine Z_if_ne (n := 20) (t := 23) dX4_level_17 rfl (by decide) (fun c17 => ?_) (fun c17 => ?_)
    · refine Z_iconst (n := 24) dX4_level_23 rfl (by decide) ?_
      refine Z_istore_n (L' := [_, _, _, _, _]) (n := 25) dX4_level_24 rfl (by decide) rfl rfl ?_
      refine Z_iconst (n := 26) dX4_level_25 rfl (by decide) ?_
      refine Z_istore (L' := [_, _, _, _, _]) (n := 28) dX4_level_26 rfl (by decide) rfl rfl ?_
      have lp28 : ∀ (N28 : Nat) (n k : Int) , ((255 - k).toNat) < N28 → (0 ≤ k) → (k ≤ 255) → (0 ≤ n) → (n ≤ k) → TZ G mX4_level (tl_rm 3 0 0) 0 0 kAll M J 28 [some (vR 31), some (vI f), some (vI v), some (vI n), some (vI k)] [] F1 M J (ZM G (zPost G kAll F1 M J (qI (fun x M' J' => M' = M ∧ J' = J))) 0 0) := by
        intro N28
        induction N28 with
        | zero => intro n k  hN; omega
        | succ N28 ih28 =>
          intro n k  hN28 i28_0 i28_1 i28_2 i28_3
          refine Z_iload (n := 30) dX4_level_28 rfl rfl ?_
          refine Z_aload_n (n := 31) dX4_level_30 rfl rfl ?_
          refine Z_getA (n := 34) dX4_level_31 rfl ffX4_51 rfl rfl ?_
          refine Z_iload_n (n := 35) dX4_level_34 rfl rfl ?_
          refine Z_iald (n := 36) dX4_level_35 rfl rfl rfl (by first | decide | assumption) (by omega) (by omega) (fun r35 s35 => ?_)
          refine Z_icmp_ge (n := 39) (t := 80) dX4_level_36 rfl (by decide) (fun c36 => ?_) (fun c36 => ?_)
          · refine Z_iload_n (n := 81) dX4_level_80 rfl rfl ?_
            refine Z_iret dX4_level_81 rfl ?_
            exact ⟨rfl, rfl⟩
          · refine Z_iload_n (n := 40) dX4_level_39 rfl rfl ?_
            refine Z_aload_n (n := 41) dX4_level_40 rfl rfl ?_
            refine Z_getA (n := 44) dX4_level_41 rfl ffX4_57 rfl rfl ?_
            refine Z_aload_n (n := 45) dX4_level_44 rfl rfl ?_
            refine Z_getA (n := 48) dX4_level_45 rfl ffX4_54 rfl rfl ?_
            refine Z_sipush (n := 51) dX4_level_48 rfl (by decide) (by decide) ?_
            refine Z_iload_n (n := 52) dX4_level_51 rfl rfl ?_
            refine Z_imul (n := 53) dX4_level_52 rfl (by omega) ?_
            refine Z_iload (n := 55) dX4_level_53 rfl rfl ?_
            refine Z_iadd (n := 56) dX4_level_55 rfl (by omega) ?_
            refine Z_iald (n := 57) dX4_level_56 rfl rfl rfl (by first | decide | assumption) (by omega) (by omega) (fun r56 s56 => ?_)
            refine Z_iald (n := 58) dX4_level_57 rfl rfl rfl (by first | decide | assumption) (by omega) (by omega) (fun r57 s57 => ?_)
            refine Z_aload_n (n := 59) dX4_level_58 rfl rfl ?_
            refine Z_getA (n := 62) dX4_level_59 rfl ffX4_32 rfl rfl ?_
            refine Z_iload_n (n := 63) dX4_level_62 rfl rfl ?_
            refine Z_iald (n := 64) dX4_level_63 rfl rfl rfl (by first | decide | assumption) (by omega) (by omega) (fun r63 s63 => ?_)
            refine Z_icmp_ne (n := 67) (t := 71) dX4_level_64 rfl (by decide) (fun c64 => ?_) (fun c64 => ?_)
            · refine Z_iconst (n := 72) dX4_level_71 rfl (by decide) ?_
              refine Z_iadd (n := 73) dX4_level_72 rfl (by omega) ?_
              refine Z_istore_n (L' := [_, _, _, _, _]) (n := 74) dX4_level_73 rfl (by decide) rfl rfl ?_
              refine Z_iinc (L' := [_, _, _, _, _]) (n := 77) dX4_level_74 rfl rfl (by decide) rfl rfl (by omega) rfl ?_
              refine Z_goto (t := 28) dX4_level_77 (by decide) ?_
              refine Z_loc (L' := [some _, some _, some _, some _, some _]) (lsub_same (lsub_same (lsub_same (lsub_same (lsub_same lsub_nil))))) ?_
              exact ih28 _ _  (by omega) (by first | assumption | omega | decide) (by first | assumption | omega | decide) (by first | assumption | omega | decide) (by first | assumption | omega | decide)
            · refine Z_iconst (n := 68) dX4_level_67 rfl (by decide) ?_
              refine Z_goto (t := 72) dX4_level_68 (by decide) ?_
              refine Z_iadd (n := 73) dX4_level_72 rfl (by omega) ?_
              refine Z_istore_n (L' := [_, _, _, _, _]) (n := 74) dX4_level_73 rfl (by decide) rfl rfl ?_
              refine Z_iinc (L' := [_, _, _, _, _]) (n := 77) dX4_level_74 rfl rfl (by decide) rfl rfl (by omega) rfl ?_
              refine Z_goto (t := 28) dX4_level_77 (by decide) ?_
              refine Z_loc (L' := [some _, some _, some _, some _, some _]) (lsub_same (lsub_same (lsub_same (lsub_same (lsub_same lsub_nil))))) ?_
              exact ih28 _ _  (by omega) (by first | assumption | omega | decide) (by first | assumption | omega | decide) (by first | assumption | omega | decide) (by first | assumption | omega | decide)
      refine Z_loc (L' := [some _, some _, some _, some _, some _]) (lsub_same (lsub_same (lsub_same (lsub_same (lsub_same lsub_nil))))) ?_
      exact lp28 _ _ _  (Nat.lt_succ_self _) (by first | assumption | omega | decide) (by first | assumption | omega | decide) (by first | assumption | omega | decide) (by first | assumption | omega | decide)
    · refine Z_bipush (n := 22) dX4_level_20 rfl (by decide) (by decide) ?_
      refine Z_iret dX4_level_22 rfl ?_
      exact ⟨rfl, rfl⟩
  · refine Z_iconst (n := 9) dX4_level_8 rfl (by decide) ?_
    refine Z_iret dX4_level_9 rfl ?_
    exact ⟨rfl, rfl⟩
set_option maxRecDepth 20000 in
theorem zX4_least_s {G : tl_G} {M : zM} {J : zJ} {f y : Int}  : ZN G yX4_least mX4_least 3 kAll [vR 31, vI f, vI y] F1 M J (qI (fun x M' J' => M' = M ∧ J' = J)) := by
  refine ZN_of (L := [_, _, _, _]) (by decide) rfl rfl (Nat.le_of_ble_eq_true rfl) rfl (fun hav => ?_)
  refine Z_aload_n (n := 1) dX4_least_0 rfl rfl ?_
  refine Z_iload_n (n := 2) dX4_least_1 rfl rfl ?_
  refine Z_callVi (n := 5) [_] _ dX4_least_2 rfl cwX4_223 rfl rfl rfl (Nat.le_of_ble_eq_true rfl) (by refine ⟨?_, ?_, ?_, ?_⟩ <;> exact Nat.le_of_ble_eq_true rfl) (fun _ h => h) (zX4_isFunction  ) ?_
  intro x2 M2 J2 z2 f2 q2
  obtain ⟨e2_1, e2_2, h2⟩ := q2
  replace e2_1 := e2_1.symm; subst e2_1
  replace e2_2 := e2_2.symm; subst e2_2
  refine Z_if_ne (n := 8) (t := 10) dX4_least_5 rfl (by decide) (fun c5 => ?_) (fun c5 => ?_)
  · refine Z_aload_n (n := 11) dX4_least_10 rfl rfl ?_
    refine Z_iload_n (n := 12) dX4_least_11 rfl rfl ?_
    refine Z_iload_n (n := 13) dX4_least_12 rfl rfl ?_
    refine Z_callVi (n := 16) [_, _] _ dX4_least_13 rfl cwX4_246 rfl rfl rfl (Nat.le_of_ble_eq_true rfl) (by refine ⟨?_, ?_, ?_, ?_⟩ <;> exact Nat.le_of_ble_eq_true rfl) (fun _ h => h) (zX4_leastOf  (by first | assumption | omega | decide) (by first | assumption | omega | decide)) ?_
    intro x13 M13 J13 z13 f13 q13
    obtain ⟨e13_1, e13_2, h13⟩ := q13
    replace e13_1 := e13_1.symm; subst e13_1
    replace e13_2 := e13_2.symm; subst e13_2
    refine Z_istore_n (L' := [_, _, _, _]) (n := 17) dX4_least_16 rfl (by decide) rfl rfl ?_
    refine Z_iload_n (n := 18) dX4_least_17 rfl rfl ?_
    refine Z_if_ge (n := 21) (t := 26) dX4_least_18 rfl (by decide) (fun c18 => ?_) (fun c18 => ?_)
    · refine Z_aload_n (n := 27) dX4_least_26 rfl rfl ?_
      refine Z_iload_n (n := 28) dX4_least_27 rfl rfl ?_
      refine Z_callVi (n := 31) [_] _ dX4_least_28 rfl cwX4_250 rfl rfl rfl (Nat.le_of_ble_eq_true rfl) (by refine ⟨?_, ?_, ?_, ?_⟩ <;> exact Nat.le_of_ble_eq_true rfl) (fun _ h => h) (zX4_assignmentAt  ) ?_
      intro x28 M28 J28 z28 f28 q28
      obtain ⟨e28_1, e28_2, h28⟩ := q28
      replace e28_1 := e28_1.symm; subst e28_1
      replace e28_2 := e28_2.symm; subst e28_2
      refine Z_iret dX4_least_31 rfl ?_
      exact ⟨rfl, rfl⟩
    · refine Z_bipush (n := 23) dX4_least_21 rfl (by decide) (by decide) ?_
      refine Z_goto (t := 31) dX4_least_23 (by decide) ?_
      refine Z_iret dX4_least_31 rfl ?_
      exact ⟨rfl, rfl⟩
  · refine Z_iconst (n := 9) dX4_least_8 rfl (by decide) ?_
    refine Z_iret dX4_least_9 rfl ?_
    exact ⟨rfl, rfl⟩
set_option maxRecDepth 20000 in
theorem zX4_nodes_s {G : tl_G} {M : zM} {J : zJ} {f : Int}  : ZN G yX4_nodes mX4_nodes 3 kAll [vR 31, vI f] F1 M J (qI (fun x M' J' => M' = M ∧ J' = J)) := by
  refine ZN_of (L := [_, _]) (by decide) rfl rfl (Nat.le_of_ble_eq_true rfl) rfl (fun hav => ?_)
  refine Z_aload_n (n := 1) dX4_nodes_0 rfl rfl ?_
  refine Z_iload_n (n := 2) dX4_nodes_1 rfl rfl ?_
  refine Z_callVi (n := 5) [_] _ dX4_nodes_2 rfl cwX4_223 rfl rfl rfl (Nat.le_of_ble_eq_true rfl) (by refine ⟨?_, ?_, ?_, ?_⟩ <;> exact Nat.le_of_ble_eq_true rfl) (fun _ h => h) (zX4_isFunction  ) ?_
  intro x2 M2 J2 z2 f2 q2
  obtain ⟨e2_1, e2_2, h2⟩ := q2
  replace e2_1 := e2_1.symm; subst e2_1
  replace e2_2 := e2_2.symm; subst e2_2
  refine Z_if_eq (n := 8) (t := 17) dX4_nodes_5 rfl (by decide) (fun c5 => ?_) (fun c5 => ?_)
  · refine Z_iconst (n := 18) dX4_nodes_17 rfl (by decide) ?_
    refine Z_iret dX4_nodes_18 rfl ?_
    exact ⟨rfl, rfl⟩
  · refine Z_aload_n (n := 9) dX4_nodes_8 rfl rfl ?_
    refine Z_getA (n := 12) dX4_nodes_9 rfl ffX4_51 rfl rfl ?_
    refine Z_iload_n (n := 13) dX4_nodes_12 rfl rfl ?_
    refine Z_iald (n := 14) dX4_nodes_13 rfl rfl rfl (by first | decide | assumption) (by omega) (by omega) (fun r13 s13 => ?_)
    refine Z_goto (t := 18) dX4_nodes_14 (by decide) ?_
    refine Z_iret dX4_nodes_18 rfl ?_
    exact ⟨rfl, rfl⟩
set_option maxRecDepth 20000 in
theorem zX4_common_s {G : tl_G} {M : zM} {J : zJ} {f g : Int}  : ZN G yX4_common mX4_common 3 kAll [vR 31, vI f, vI g] F1 M J (qI (fun x M' J' => M' = M ∧ J' = J)) := by
  refine ZN_of (L := [_, _, _, _, _, _]) (by decide) rfl rfl (Nat.le_of_ble_eq_true rfl) rfl (fun hav => ?_)
  refine Z_aload_n (n := 1) dX4_common_0 rfl rfl ?_
  refine Z_iload_n (n := 2) dX4_common_1 rfl rfl ?_
  refine Z_callVi (n := 5) [_] _ dX4_common_2 rfl cwX4_223 rfl rfl rfl (Nat.le_of_ble_eq_true rfl) (by refine ⟨?_, ?_, ?_, ?_⟩ <;> exact Nat.le_of_ble_eq_true rfl) (fun _ h => h) (zX4_isFunction  ) ?_
  intro x2 M2 J2 z2 f2 q2
  obtain ⟨e2_1, e2_2, h2⟩ := q2
  replace e2_1 := e2_1.symm; subst e2_1
  replace e2_2 := e2_2.symm; subst e2_2
  refine Z_if_eq (n := 8) (t := 16) dX4_common_5 rfl (by decide) (fun c5 => ?_) (fun c5 => ?_)
  · refine Z_iconst (n := 17) dX4_common_16 rfl (by decide) ?_
    refine Z_iret dX4_common_17 rfl ?_
    exact ⟨rfl, rfl⟩
  · refine Z_aload_n (n := 9) dX4_common_8 rfl rfl ?_
    refine Z_iload_n (n := 10) dX4_common_9 rfl rfl ?_
    refine Z_callVi (n := 13) [_] _ dX4_common_10 rfl cwX4_223 rfl rfl rfl (Nat.le_of_ble_eq_true rfl) (by refine ⟨?_, ?_, ?_, ?_⟩ <;> exact Nat.le_of_ble_eq_true rfl) (fun _ h => h) (zX4_isFunction  ) ?_
    intro x10 M10 J10 z10 f10 q10
    obtain ⟨e10_1, e10_2, h10⟩ := q10
    replace e10_1 := e10_1.symm; subst e10_1
    replace e10_2 := e10_2.symm; subst e10_2
    refine Z_if_ne (n := 16) (t := 18) dX4_common_13 rfl (by decide) (fun c13 => ?_) (fun c13 => ?_)
    · refine Z_iconst (n := 19) dX4_common_18 rfl (by decide) ?_
      refine Z_istore_n (L' := [_, _, _, _, _, _]) (n := 20) dX4_common_19 rfl (by decide) rfl rfl ?_
      refine Z_iconst (n := 21) dX4_common_20 rfl (by decide) ?_
      refine Z_istore (L' := [_, _, _, _, _, _]) (n := 23) dX4_common_21 rfl (by decide) rfl rfl ?_
      have lp23 : ∀ (N23 : Nat) (n i : Int) , ((255 - i).toNat) < N23 → (0 ≤ i) → (i ≤ 255) → (0 ≤ n) → (n ≤ 255 * i) → TZ G mX4_common (tl_rm 3 0 0) 0 0 kAll M J 23 [some (vR 31), some (vI f), some (vI g), some (vI n), some (vI i), none] [] F1 M J (ZM G (zPost G kAll F1 M J (qI (fun x M' J' => M' = M ∧ J' = J))) 0 0) := by
        intro N23
        induction N23 with
        | zero => intro n i  hN; omega
        | succ N23 ih23 =>
          intro n i  hN23 i23_0 i23_1 i23_2 i23_3
          refine Z_iload (n := 25) dX4_common_23 rfl rfl ?_
          refine Z_aload_n (n := 26) dX4_common_25 rfl rfl ?_
          refine Z_getA (n := 29) dX4_common_26 rfl ffX4_51 rfl rfl ?_
          refine Z_iload_n (n := 30) dX4_common_29 rfl rfl ?_
          refine Z_iald (n := 31) dX4_common_30 rfl rfl rfl (by first | decide | assumption) (by omega) (by omega) (fun r30 s30 => ?_)
          refine Z_icmp_ge (n := 34) (t := 97) dX4_common_31 rfl (by decide) (fun c31 => ?_) (fun c31 => ?_)
          · refine Z_iload_n (n := 98) dX4_common_97 rfl rfl ?_
            refine Z_iret dX4_common_98 rfl ?_
            exact ⟨rfl, rfl⟩
          · refine Z_iconst (n := 35) dX4_common_34 rfl (by decide) ?_
            refine Z_istore (L' := [_, _, _, _, _, _]) (n := 37) dX4_common_35 rfl (by decide) rfl rfl ?_
            have lp37 : ∀ (N37 : Nat) (n j : Int) , ((255 - j).toNat) < N37 → (0 ≤ j) → (j ≤ 255) → (0 ≤ n) → (n ≤ 255 * i + j) → TZ G mX4_common (tl_rm 3 0 0) 0 0 kAll M J 37 [some (vR 31), some (vI f), some (vI g), some (vI n), some (vI i), some (vI j)] [] F1 M J (ZM G (zPost G kAll F1 M J (qI (fun x M' J' => M' = M ∧ J' = J))) 0 0) := by
              intro N37
              induction N37 with
              | zero => intro n j  hN; omega
              | succ N37 ih37 =>
                intro n j  hN37 i37_0 i37_1 i37_2 i37_3
                refine Z_iload (n := 39) dX4_common_37 rfl rfl ?_
                refine Z_aload_n (n := 40) dX4_common_39 rfl rfl ?_
                refine Z_getA (n := 43) dX4_common_40 rfl ffX4_51 rfl rfl ?_
                refine Z_iload_n (n := 44) dX4_common_43 rfl rfl ?_
                refine Z_iald (n := 45) dX4_common_44 rfl rfl rfl (by first | decide | assumption) (by omega) (by omega) (fun r44 s44 => ?_)
                refine Z_icmp_ge (n := 48) (t := 91) dX4_common_45 rfl (by decide) (fun c45 => ?_) (fun c45 => ?_)
                · refine Z_iinc (L' := [_, _, _, _, _, _]) (n := 94) dX4_common_91 rfl rfl (by decide) rfl rfl (by omega) rfl ?_
                  refine Z_goto (t := 23) dX4_common_94 (by decide) ?_
                  refine Z_loc (L' := [some _, some _, some _, some _, some _, none]) (lsub_same (lsub_same (lsub_same (lsub_same (lsub_same (lsub_none lsub_nil)))))) ?_
                  exact ih23 _ _  (by omega) (by first | assumption | omega | decide) (by first | assumption | omega | decide) (by first | assumption | omega | decide) (by first | assumption | omega | decide)
                · refine Z_iload_n (n := 49) dX4_common_48 rfl rfl ?_
                  refine Z_aload_n (n := 50) dX4_common_49 rfl rfl ?_
                  refine Z_getA (n := 53) dX4_common_50 rfl ffX4_54 rfl rfl ?_
                  refine Z_sipush (n := 56) dX4_common_53 rfl (by decide) (by decide) ?_
                  refine Z_iload_n (n := 57) dX4_common_56 rfl rfl ?_
                  refine Z_imul (n := 58) dX4_common_57 rfl (by omega) ?_
                  refine Z_iload (n := 60) dX4_common_58 rfl rfl ?_
                  refine Z_iadd (n := 61) dX4_common_60 rfl (by omega) ?_
                  refine Z_iald (n := 62) dX4_common_61 rfl rfl rfl (by first | decide | assumption) (by omega) (by omega) (fun r61 s61 => ?_)
                  refine Z_aload_n (n := 63) dX4_common_62 rfl rfl ?_
                  refine Z_getA (n := 66) dX4_common_63 rfl ffX4_54 rfl rfl ?_
                  refine Z_sipush (n := 69) dX4_common_66 rfl (by decide) (by decide) ?_
                  refine Z_iload_n (n := 70) dX4_common_69 rfl rfl ?_
                  refine Z_imul (n := 71) dX4_common_70 rfl (by omega) ?_
                  refine Z_iload (n := 73) dX4_common_71 rfl rfl ?_
                  refine Z_iadd (n := 74) dX4_common_73 rfl (by omega) ?_
                  refine Z_iald (n := 75) dX4_common_74 rfl rfl rfl (by first | decide | assumption) (by omega) (by omega) (fun r74 s74 => ?_)
                  refine Z_icmp_ne (n := 78) (t := 82) dX4_common_75 rfl (by decide) (fun c75 => ?_) (fun c75 => ?_)
                  · refine Z_iconst (n := 83) dX4_common_82 rfl (by decide) ?_
                    refine Z_iadd (n := 84) dX4_common_83 rfl (by omega) ?_
                    refine Z_istore_n (L' := [_, _, _, _, _, _]) (n := 85) dX4_common_84 rfl (by decide) rfl rfl ?_
                    refine Z_iinc (L' := [_, _, _, _, _, _]) (n := 88) dX4_common_85 rfl rfl (by decide) rfl rfl (by omega) rfl ?_
                    refine Z_goto (t := 37) dX4_common_88 (by decide) ?_
                    refine Z_loc (L' := [some _, some _, some _, some _, some _, some _]) (lsub_same (lsub_same (lsub_same (lsub_same (lsub_same (lsub_same lsub_nil)))))) ?_
                    exact ih37 _ _  (by omega) (by first | assumption | omega | decide) (by first | assumption | omega | decide) (by first | assumption | omega | decide) (by first | assumption | omega | decide)
                  · refine Z_iconst (n := 79) dX4_common_78 rfl (by decide) ?_
                    refine Z_goto (t := 83) dX4_common_79 (by decide) ?_
                    refine Z_iadd (n := 84) dX4_common_83 rfl (by omega) ?_
                    refine Z_istore_n (L' := [_, _, _, _, _, _]) (n := 85) dX4_common_84 rfl (by decide) rfl rfl ?_
                    refine Z_iinc (L' := [_, _, _, _, _, _]) (n := 88) dX4_common_85 rfl rfl (by decide) rfl rfl (by omega) rfl ?_
                    refine Z_goto (t := 37) dX4_common_88 (by decide) ?_
                    refine Z_loc (L' := [some _, some _, some _, some _, some _, some _]) (lsub_same (lsub_same (lsub_same (lsub_same (lsub_same (lsub_same lsub_nil)))))) ?_
                    exact ih37 _ _  (by omega) (by first | assumption | omega | decide) (by first | assumption | omega | decide) (by first | assumption | omega | decide) (by first | assumption | omega | decide)
            refine Z_loc (L' := [some _, some _, some _, some _, some _, some _]) (lsub_same (lsub_same (lsub_same (lsub_same (lsub_same (lsub_same lsub_nil)))))) ?_
            exact lp37 _ _ _  (Nat.lt_succ_self _) (by first | assumption | omega | decide) (by first | assumption | omega | decide) (by first | assumption | omega | decide) (by first | assumption | omega | decide)
      refine Z_loc (L' := [some _, some _, some _, some _, some _, none]) (lsub_same (lsub_same (lsub_same (lsub_same (lsub_same (lsub_none lsub_nil)))))) ?_
      exact lp23 _ _ _  (Nat.lt_succ_self _) (by first | assumption | omega | decide) (by first | assumption | omega | decide) (by first | assumption | omega | decide) (by first | assumption | omega | decide)
    · refine Z_iconst (n := 17) dX4_common_16 rfl (by decide) ?_
      refine Z_iret dX4_common_17 rfl ?_
      exact ⟨rfl, rfl⟩
abbrev kWy (a : Nat) : Prop := ¬ a = 53 ∧ ¬ a = 57
theorem wr_zI (x : Int) : zI (wr x) := zIof _
set_option maxRecDepth 20000 in
theorem zX4_paths_s {G : tl_G} {M : zM} {J : zJ} {f y : Int}  : ZN G yX4_paths mX4_paths 3 kWy [vR 31, vI f, vI y] F1 M J (qI (fun x M' J' => True)) := by
  refine ZN_of (L := [_, _, _, _, _]) (by decide) rfl rfl (Nat.le_of_ble_eq_true rfl) rfl (fun hav => ?_)
  refine Z_aload_n (n := 1) dX4_paths_0 rfl rfl ?_
  refine Z_iload_n (n := 2) dX4_paths_1 rfl rfl ?_
  refine Z_callVi (n := 5) [_] _ dX4_paths_2 rfl cwX4_223 rfl rfl rfl (Nat.le_of_ble_eq_true rfl) (by refine ⟨?_, ?_, ?_, ?_⟩ <;> exact Nat.le_of_ble_eq_true rfl) (fun _ _ => trivial) (zX4_isFunction  ) ?_
  intro x2 M2 J2 z2 f2 q2
  obtain ⟨e2_1, e2_2, h2⟩ := q2
  replace e2_1 := e2_1.symm; subst e2_1
  replace e2_2 := e2_2.symm; subst e2_2
  refine Z_if_ne (n := 8) (t := 10) dX4_paths_5 rfl (by decide) (fun c5 => ?_) (fun c5 => ?_)
  · refine Z_iconst (n := 11) dX4_paths_10 rfl (by decide) ?_
    refine Z_istore_n (L' := [_, _, _, _, _]) (n := 12) dX4_paths_11 rfl (by decide) rfl rfl ?_
    have lp12 : ∀ (N12 : Nat) (p : Int) (M12 : zM) (J12 : zJ), ((256 - p).toNat) < N12 → (0 ≤ p) → (p ≤ 256) → TZ G mX4_paths (tl_rm 3 0 0) 0 0 kWy M J 12 [some (vR 31), some (vI f), some (vI y), some (vI p), none] [] F1 M12 J12 (ZM G (zPost G kWy F1 M J (qI (fun x M' J' => True))) 0 0) := by
      intro N12
      induction N12 with
      | zero => intro p M12 J12 hN; omega
      | succ N12 ih12 =>
        intro p M12 J12 hN12 i12_0 i12_1
        refine Z_iload_n (n := 13) dX4_paths_12 rfl rfl ?_
        refine Z_sipush (n := 16) dX4_paths_13 rfl (by decide) (by decide) ?_
        refine Z_icmp_ge (n := 19) (t := 46) dX4_paths_16 rfl (by decide) (fun c16 => ?_) (fun c16 => ?_)
        · refine Z_bipush (n := 48) dX4_paths_46 rfl (by decide) (by decide) ?_
          refine Z_istore_n (L' := [_, _, _, _, _]) (n := 49) dX4_paths_48 rfl (by decide) rfl rfl ?_
          have lp49 : ∀ (N49 : Nat) (d : Int) (M49 : zM) (J49 : zJ), ((d + 1).toNat) < N49 → (-1 ≤ d) → (d ≤ 7) → TZ G mX4_paths (tl_rm 3 0 0) 0 0 kWy M J 49 [some (vR 31), some (vI f), some (vI y), some (vI d), none] [] F1 M49 J49 (ZM G (zPost G kWy F1 M J (qI (fun x M' J' => True))) 0 0) := by
            intro N49
            induction N49 with
            | zero => intro d M49 J49 hN; omega
            | succ N49 ih49 =>
              intro d M49 J49 hN49 i49_0 i49_1
              refine Z_iload_n (n := 50) dX4_paths_49 rfl rfl ?_
              refine Z_if_lt (n := 53) (t := 127) dX4_paths_50 rfl (by decide) (fun c50 => ?_) (fun c50 => ?_)
              · refine Z_aload_n (n := 128) dX4_paths_127 rfl rfl ?_
                refine Z_getA (n := 131) dX4_paths_128 rfl ffX4_99 rfl rfl ?_
                refine Z_iconst (n := 132) dX4_paths_131 rfl (by decide) ?_
                refine Z_iald (n := 133) dX4_paths_132 rfl rfl rfl (by first | decide | assumption) (by omega) (by omega) (fun r132 s132 => ?_)
                refine Z_iret dX4_paths_133 rfl ?_
                trivial
              · have hs := zshl1 (d := d) (by omega) (by omega)
                refine Z_iconst (n := 54) dX4_paths_53 rfl (by decide) ?_
                refine Z_istore (L' := [_, _, _, _, _]) (n := 56) dX4_paths_54 rfl (by decide) rfl rfl ?_
                have lp56 : ∀ (N56 : Nat) (i : Int) (M56 : zM) (J56 : zJ), ((zshl 1 d - i).toNat) < N56 → (0 ≤ i) → (i ≤ zshl 1 d) → TZ G mX4_paths (tl_rm 3 0 0) 0 0 kWy M J 56 [some (vR 31), some (vI f), some (vI y), some (vI d), some (vI i)] [] F1 M56 J56 (ZM G (zPost G kWy F1 M J (qI (fun x M' J' => True))) 0 0) := by
                  intro N56
                  induction N56 with
                  | zero => intro i M56 J56 hN; omega
                  | succ N56 ih56 =>
                    intro i M56 J56 hN56 i56_0 i56_1
                    refine Z_iload (n := 58) dX4_paths_56 rfl rfl ?_
                    refine Z_iconst (n := 59) dX4_paths_58 rfl (by decide) ?_
                    refine Z_iload_n (n := 60) dX4_paths_59 rfl rfl ?_
                    refine Z_ishl (n := 61) dX4_paths_60 rfl ?_
                    refine Z_icmp_ge (n := 64) (t := 121) dX4_paths_61 rfl (by decide) (fun c61 => ?_) (fun c61 => ?_)
                    · refine Z_iinc (L' := [_, _, _, _, _]) (n := 124) dX4_paths_121 rfl rfl (by decide) rfl rfl (by omega) rfl ?_
                      refine Z_goto (t := 49) dX4_paths_124 (by decide) ?_
                      refine Z_loc (L' := [some _, some _, some _, some _, none]) (lsub_same (lsub_same (lsub_same (lsub_same (lsub_none lsub_nil))))) ?_
                      exact ih49 _ _ _ (by omega) (by first | assumption | omega | decide) (by first | assumption | omega | decide)
                    · refine Z_aload_n (n := 65) dX4_paths_64 rfl rfl ?_
                      refine Z_getA (n := 68) dX4_paths_65 rfl ffX4_99 rfl rfl ?_
                      refine Z_iload (n := 70) dX4_paths_68 rfl rfl ?_
                      refine Z_aload_n (n := 71) dX4_paths_70 rfl rfl ?_
                      refine Z_iload_n (n := 72) dX4_paths_71 rfl rfl ?_
                      refine Z_iload_n (n := 73) dX4_paths_72 rfl rfl ?_
                      refine Z_iload (n := 75) dX4_paths_73 rfl rfl ?_
                      refine Z_callVi (n := 78) [_, _, _] _ dX4_paths_75 rfl cwX4_163 rfl rfl rfl (Nat.le_of_ble_eq_true rfl) (by refine ⟨?_, ?_, ?_, ?_⟩ <;> exact Nat.le_of_ble_eq_true rfl) (fun a h => by unfold kWy at h; unfold kPart; omega) (zX4_lays  (by first | assumption | omega | decide) (by first | assumption | omega | decide) (by first | assumption | omega | decide) (by first | assumption | omega | decide) (by first | assumption | omega | decide) (by first | assumption | omega | decide)) ?_
                      intro x75 M75 J75 z75 f75 q75
                      obtain ⟨e75_1, h75⟩ := q75
                      replace e75_1 := e75_1.symm; subst e75_1
                      refine Z_if_eq (n := 81) (t := 105) dX4_paths_78 rfl (by decide) (fun c78 => ?_) (fun c78 => ?_)
                      · refine Z_aload_n (n := 106) dX4_paths_105 rfl rfl ?_
                        refine Z_getA (n := 109) dX4_paths_106 rfl ffX4_99 rfl rfl ?_
                        refine Z_iconst (n := 110) dX4_paths_109 rfl (by decide) ?_
                        refine Z_iload (n := 112) dX4_paths_110 rfl rfl ?_
                        refine Z_imul (n := 113) dX4_paths_112 rfl (by omega) ?_
                        refine Z_iald (n := 114) dX4_paths_113 rfl rfl rfl (by first | decide | assumption) (by omega) (by omega) (fun r113 s113 => ?_)
                        refine Z_iast (n := 115) dX4_paths_114 rfl rfl rfl (by first | decide | assumption) (by omega) (by omega) (by first | exact r113 | exact s113 | exact (wr_zI _).1 | exact (wr_zI _).2) (by first | exact r113 | exact s113 | exact (wr_zI _).1 | exact (wr_zI _).2) (by decide) ?_
                        refine Z_iinc (L' := [_, _, _, _, _]) (n := 118) dX4_paths_115 rfl rfl (by decide) rfl rfl (by omega) rfl ?_
                        refine Z_goto (t := 56) dX4_paths_118 (by decide) ?_
                        refine Z_loc (L' := [some _, some _, some _, some _, some _]) (lsub_same (lsub_same (lsub_same (lsub_same (lsub_same lsub_nil))))) ?_
                        exact ih56 _ _ _ (by omega) (by first | assumption | omega | decide) (by first | assumption | omega | decide)
                      · refine Z_aload_n (n := 82) dX4_paths_81 rfl rfl ?_
                        refine Z_getA (n := 85) dX4_paths_82 rfl ffX4_99 rfl rfl ?_
                        refine Z_iconst (n := 86) dX4_paths_85 rfl (by decide) ?_
                        refine Z_iload (n := 88) dX4_paths_86 rfl rfl ?_
                        refine Z_imul (n := 89) dX4_paths_88 rfl (by omega) ?_
                        refine Z_iald (n := 90) dX4_paths_89 rfl rfl rfl (by first | decide | assumption) (by omega) (by omega) (fun r89 s89 => ?_)
                        refine Z_aload_n (n := 91) dX4_paths_90 rfl rfl ?_
                        refine Z_getA (n := 94) dX4_paths_91 rfl ffX4_99 rfl rfl ?_
                        refine Z_iconst (n := 95) dX4_paths_94 rfl (by decide) ?_
                        refine Z_iload (n := 97) dX4_paths_95 rfl rfl ?_
                        refine Z_imul (n := 98) dX4_paths_97 rfl (by omega) ?_
                        refine Z_iconst (n := 99) dX4_paths_98 rfl (by decide) ?_
                        refine Z_iadd (n := 100) dX4_paths_99 rfl (by omega) ?_
                        refine Z_iald (n := 101) dX4_paths_100 rfl rfl rfl (by first | decide | assumption) (by omega) (by omega) (fun r100 s100 => ?_)
                        refine Z_iaddw (n := 102) dX4_paths_101 rfl ?_
                        refine Z_goto (t := 114) dX4_paths_102 (by decide) ?_
                        refine Z_iast (n := 115) dX4_paths_114 rfl rfl rfl (by first | decide | assumption) (by omega) (by omega) (by first | exact r113 | exact s113 | exact (wr_zI _).1 | exact (wr_zI _).2) (by first | exact r113 | exact s113 | exact (wr_zI _).1 | exact (wr_zI _).2) (by decide) ?_
                        refine Z_iinc (L' := [_, _, _, _, _]) (n := 118) dX4_paths_115 rfl rfl (by decide) rfl rfl (by omega) rfl ?_
                        refine Z_goto (t := 56) dX4_paths_118 (by decide) ?_
                        refine Z_loc (L' := [some _, some _, some _, some _, some _]) (lsub_same (lsub_same (lsub_same (lsub_same (lsub_same lsub_nil))))) ?_
                        exact ih56 _ _ _ (by omega) (by first | assumption | omega | decide) (by first | assumption | omega | decide)
                refine Z_loc (L' := [some _, some _, some _, some _, some _]) (lsub_same (lsub_same (lsub_same (lsub_same (lsub_same lsub_nil))))) ?_
                exact lp56 _ _ _ _ (Nat.lt_succ_self _) (by first | assumption | omega | decide) (by first | assumption | omega | decide)
          refine Z_loc (L' := [some _, some _, some _, some _, none]) (lsub_same (lsub_same (lsub_same (lsub_same (lsub_none lsub_nil))))) ?_
          exact lp49 _ _ _ _ (Nat.lt_succ_self _) (by first | assumption | omega | decide) (by first | assumption | omega | decide)
        · refine Z_aload_n (n := 20) dX4_paths_19 rfl rfl ?_
          refine Z_getA (n := 23) dX4_paths_20 rfl ffX4_99 rfl rfl ?_
          refine Z_iload_n (n := 24) dX4_paths_23 rfl rfl ?_
          refine Z_aload_n (n := 25) dX4_paths_24 rfl rfl ?_
          refine Z_iload_n (n := 26) dX4_paths_25 rfl rfl ?_
          refine Z_iload_n (n := 27) dX4_paths_26 rfl rfl ?_
          refine Z_callVi (n := 30) [_, _] _ dX4_paths_27 rfl cwX4_240 rfl rfl rfl (Nat.le_of_ble_eq_true rfl) (by refine ⟨?_, ?_, ?_, ?_⟩ <;> exact Nat.le_of_ble_eq_true rfl) (fun _ _ => trivial) (zX4_bit  (by first | assumption | omega | decide) (by first | assumption | omega | decide) (by first | assumption | omega | decide) (by first | assumption | omega | decide)) ?_
          intro x27 M27 J27 z27 f27 q27
          obtain ⟨e27_1, e27_2, h27⟩ := q27
          replace e27_1 := e27_1.symm; subst e27_1
          replace e27_2 := e27_2.symm; subst e27_2
          refine Z_iload_n (n := 31) dX4_paths_30 rfl rfl ?_
          refine Z_icmp_ne (n := 34) (t := 38) dX4_paths_31 rfl (by decide) (fun c31 => ?_) (fun c31 => ?_)
          · refine Z_iconst (n := 39) dX4_paths_38 rfl (by decide) ?_
            refine Z_iast (n := 40) dX4_paths_39 rfl rfl rfl (by first | decide | assumption) (by omega) (by omega) (by decide) (by decide) (by decide) ?_
            refine Z_iinc (L' := [_, _, _, _, _]) (n := 43) dX4_paths_40 rfl rfl (by decide) rfl rfl (by omega) rfl ?_
            refine Z_goto (t := 12) dX4_paths_43 (by decide) ?_
            refine Z_loc (L' := [some _, some _, some _, some _, none]) (lsub_same (lsub_same (lsub_same (lsub_same (lsub_none lsub_nil))))) ?_
            exact ih12 _ _ _ (by omega) (by first | assumption | omega | decide) (by first | assumption | omega | decide)
          · refine Z_iconst (n := 35) dX4_paths_34 rfl (by decide) ?_
            refine Z_goto (t := 39) dX4_paths_35 (by decide) ?_
            refine Z_iast (n := 40) dX4_paths_39 rfl rfl rfl (by first | decide | assumption) (by omega) (by omega) (by decide) (by decide) (by decide) ?_
            refine Z_iinc (L' := [_, _, _, _, _]) (n := 43) dX4_paths_40 rfl rfl (by decide) rfl rfl (by omega) rfl ?_
            refine Z_goto (t := 12) dX4_paths_43 (by decide) ?_
            refine Z_loc (L' := [some _, some _, some _, some _, none]) (lsub_same (lsub_same (lsub_same (lsub_same (lsub_none lsub_nil))))) ?_
            exact ih12 _ _ _ (by omega) (by first | assumption | omega | decide) (by first | assumption | omega | decide)
    refine Z_loc (L' := [some _, some _, some _, some _, none]) (lsub_same (lsub_same (lsub_same (lsub_same (lsub_none lsub_nil))))) ?_
    exact lp12 _ _ _ _ (Nat.lt_succ_self _) (by first | assumption | omega | decide) (by first | assumption | omega | decide)
  · refine Z_iconst (n := 9) dX4_paths_8 rfl (by decide) ?_
    refine Z_iret dX4_paths_9 rfl ?_
    trivial
